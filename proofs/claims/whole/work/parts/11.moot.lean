def pAt (wh : Nat → Nat) (c : Nat) : Nat → Nat
  | 0 => 0
  | p + 1 => pAt wh c p ||| (if wh p = c then 2 ^ p else 0)
def vFor (wh v : Nat → Nat) (ln : Nat) : Nat → Nat
  | 0 => 0
  | p + 1 => vFor wh v ln p + (if wh p / 6 < ln then v p else 0)
def vAg (wh v : Nat → Nat) (ln : Nat) : Nat → Nat
  | 0 => 0
  | p + 1 => vAg wh v ln p + (if ln < wh p / 6 then v p else 0)
def lns (wh v : Nat → Nat) (n : Nat) : Nat → Nat
  | 0 => 0
  | ln + 1 => lns wh v n ln ||| (if vAg wh v ln n < vFor wh v ln n then 2 ^ ln else 0)
/-- a square of that width is clear -/
def sq (d : Nat → Nat) (w : Nat) : Prop := ∃ x y, x + w ≤ 6 ∧ y + w ≤ 6 ∧ clr d x y w
/-- z tells the first clear square of width w -/
def csq (d : Nat → Nat) (w : Nat) (z : Int) : Prop := (z = -9 ∧ (w = 0 ∨ ¬ sq d w)) ∨ (1 ≤ w ∧ ∃ x y, x + w ≤ 6 ∧ y + w ≤ 6 ∧ clr d x y w ∧ z = (10 * x + y : Nat) ∧ ∀ x' y', x' + w ≤ 6 → y' + w ≤ 6 → clr d x' y' w → x < x' ∨ (x = x' ∧ y ≤ y'))
def wid (d : Nat → Nat) (w : Nat) : Prop := w ≤ 6 ∧ (w = 0 ∨ sq d w) ∧ ∀ w', w < w' → w' ≤ 6 → ¬ sq d w'
def fitB (w : Nat → Nat) (n : Nat) (el fd : Nat → Nat) (m s : Nat) : Bool := (List.range m).all (fun j => decide (min 9 (bSum w (s &&& (el j ^^^ 31)) n) = fd j))
theorem fitB_iff {w : Nat → Nat} {n : Nat} {el fd : Nat → Nat} {m s : Nat} : fitB w n el fd m s = true ↔ fitF w n el fd m s := by
  simp [fitB, fitF]
def canN (w : Nat → Nat) (n : Nat) (el fd : Nat → Nat) (m b : Nat) : Nat → Nat
  | 0 => 0
  | s + 1 => canN w n el fd m b s + (if s &&& b = b ∧ fitB w n el fd m s = true then 1 else 0)
def inAll (w : Nat → Nat) (n : Nat) (el fd : Nat → Nat) (m : Nat) : Nat → Int
  | 0 => -9
  | s + 1 => if fitB w n el fd m s = true then (if inAll w n el fd m s = -9 then (s : Int) else (((inAll w n el fd m s).toNat &&& s : Nat) : Int)) else inAll w n el fd m s
def inSome (w : Nat → Nat) (n : Nat) (el fd : Nat → Nat) (m : Nat) : Nat → Nat
  | 0 => 0
  | s + 1 => if fitB w n el fd m s = true then inSome w n el fd m s ||| s else inSome w n el fd m s
theorem inAll_le (w : Nat → Nat) (n : Nat) (el fd : Nat → Nat) (m : Nat) : ∀ s, -9 ≤ inAll w n el fd m s ∧ inAll w n el fd m s ≤ s ∧ (inAll w n el fd m s = -9 ∨ 0 ≤ inAll w n el fd m s)
  | 0 => by simp [inAll]
  | s + 1 => by
    have h := inAll_le w n el fd m s
    simp only [inAll]
    split
    · split
      · omega
      · have : (inAll w n el fd m s).toNat &&& s ≤ s := Nat.and_le_right
        omega
    · omega
theorem pow5 {n : Nat} (h : n ≤ 5) : 2 ^ n ≤ 32 := Nat.pow_le_pow_right (by decide) h
theorem inAll_st {w : Nat → Nat} {n : Nat} {el fd : Nat → Nat} {m q b : Nat} {y z : Int} (hy : y = inAll w n el fd m q) (hu : (b = 1 ∧ fitF w n el fd m q) ∨ (b = 0 ∧ ¬ fitF w n el fd m q)) (h : (b = 0 ∧ z = y) ∨ (¬ b = 0 ∧ y = -9 ∧ z = q) ∨ (¬ b = 0 ∧ ¬ y = -9 ∧ z = ((y.toNat &&& q : Nat) : Int))) : z = inAll w n el fd m (q + 1) := by
  have := fitB_iff (w := w) (n := n) (el := el) (fd := fd) (m := m) (s := q)
  simp only [inAll, ← hy]
  rcases h with ⟨h, rfl⟩ | ⟨h, h2, rfl⟩ | ⟨h, h2, rfl⟩
  · rcases hu with h1 | h1
    · omega
    · rw [if_neg (fun z => h1.2 (this.mp z))]
  · rcases hu with h1 | h1
    · rw [if_pos (this.mpr h1.2), if_pos h2]
    · omega
  · rcases hu with h1 | h1
    · rw [if_pos (this.mpr h1.2), if_neg h2]
    · omega
set_option maxHeartbeats 4000000 in
set_option maxRecDepth 100000 in
theorem c_X11_peopleAt (l : Launch) (G : mvG) (a : Nat → Nat) (im : Nat → Nat → Nat) (kd : Nat → Nat) (re : Nat) (pa : Nat) (fa : Nat) (b : Nat → Nat) (c : Nat → Nat) (kk : Nat → Nat) (ts : Nat → Nat) (bt : Nat → Int) (sp : Nat → Int) (qu : Nat → Nat) (bs : Int) (tr : Int64) (w : Nat → Nat) (v : Nat → Nat) (n : Nat) (k : Nat) (wh : Nat → Nat) (de : Nat → Nat) (t : Nat → Int32) (sv : Nat) (vt : Nat) (ps : Nat) (x : Nat) (hn : n ≤ 5) (hwh : ∀ j, wh j < 36) (hx : x < 36) : KQ l yX11_peopleAt cX11_peopleAt 4 (some .int) (1, 21) G [.ref (a 0), .int (nI x)] [gMoot G a (fun j => im j 0) kd re (b 0) (c 0) pa fa (nF kk) (nF ts) (sF bt) (sF sp) (nF qu) (iI bs) tr, gRoll G b (nF w) (nF v) (nI n) (nI k), gMo G c (nF wh) (nF de) t (nI sv) (nI vt) (nI ps)] (fun (_ : Unit) => some (.int (nI (pAt wh x n)))) (fun (_ : Unit) => True) (fun (_ : Unit) => [gMoot G a (fun j => im j 0) kd re (b 0) (c 0) pa fa (nF kk) (nF ts) (sF bt) (sF sp) (nF qu) (iI bs) tr, gRoll G b (nF w) (nF v) (nI n) (nI k), gMo G c (nF wh) (nF de) t (nI sv) (nI vt) (nI ps)]) := by
  refine KQ.mk (by decide +kernel) (fun _ _ => rfl) [some (.ref (a 0)), some (.int (nI x)), none, none] (Nat.le_of_ble_eq_true rfl) rfl (fun C X Y hC => ?_)
  subst hC
  refine V_iconst X (nI 0) dX11_peopleAt_0 (by decide) ?_
  refine V_istore_n X dX11_peopleAt_1 (by decide) rfl ?_
  refine V_iconst X (nI 0) dX11_peopleAt_2 (by decide) ?_
  refine V_istore_n X dX11_peopleAt_3 (by decide) rfl ?_
  have L_4 : ∀ (fz_4 : Nat) (y : Nat) (p : Nat) (hp : p ≤ n) (hy : y = pAt wh x p), (n - p) < fz_4 → V C 0 0 [gMoot G a (fun j => im j 0) kd re (b 0) (c 0) pa fa (nF kk) (nF ts) (sF bt) (sF sp) (nF qu) (iI bs) tr, gRoll G b (nF w) (nF v) (nI n) (nI k), gMo G c (nF wh) (nF de) t (nI sv) (nI vt) (nI ps)] 4 [some (.ref (a 0)), some (.int (nI x)), some (.int (nI y)), some (.int (nI p))] [] := by
    intro fz_4
    induction fz_4 with
    | zero => intro y p hp hy hf_4; exact absurd hf_4 (Nat.not_lt_zero _)
    | succ fz_4 ih_4 =>
      intro y p hp hy hf_4
      refine V_iload_n X dX11_peopleAt_4 rfl ?_
      refine V_aload_n X dX11_peopleAt_5 rfl ?_
      refine V_get X fl_X11_19 0 0 rfl rfl rfl dX11_peopleAt_6 ?_
      refine V_get X fl_X11_257 1 0 rfl rfl rfl dX11_peopleAt_9 ?_
      refine V_icmp_geN X 39 dX11_peopleAt_12 (by decide) (by omega) (by omega) (fun c_1 => ?_) (fun c_1 => ?_)
      · refine V_iload_n X dX11_peopleAt_39 rfl ?_
        exact V_iret X Y () trivial (mv_rn (by rw [hy, show p = n by omega])) rfl rfl dX11_peopleAt_40
      · refine V_aload_n X dX11_peopleAt_15 rfl ?_
        refine V_get X fl_X11_26 0 0 rfl rfl rfl dX11_peopleAt_16 ?_
        refine V_iload_n X dX11_peopleAt_19 rfl ?_
        refine V_callV (rest := []) X (c_X3_placeOf (Cl C) G c wh de t sv vt ps p (by first | assumption | omega)) mi_X3_placeOf kw_2_157 kw_2_158 kw_2_159 dX11_peopleAt_20 [2] rfl (by decide) 2 0 rfl rfl rfl rfl rfl rfl (by decide) (Nat.le_of_ble_eq_true rfl) ⟨rfl, rfl⟩ (fun _ _ => ?_)
        show V C 0 0 [gMoot G a (fun j => im j 0) kd re (b 0) (c 0) pa fa (nF kk) (nF ts) (sF bt) (sF sp) (nF qu) (iI bs) tr, gRoll G b (nF w) (nF v) (nI n) (nI k), gMo G c (nF wh) (nF de) t (nI sv) (nI vt) (nI ps)] 23 [some (.ref (a 0)), some (.int (nI x)), some (.int (nI y)), some (.int (nI p))] [.int (nI (wh p))]
        have hwp := hwh p
        refine V_iload_n X dX11_peopleAt_23 rfl ?_
        refine V_icmp_neN X 33 dX11_peopleAt_24 (by decide) (by omega) (by omega) (fun c_2 => ?_) (fun c_2 => ?_)
        · refine V_iincN X (c := 1) dX11_peopleAt_33 rfl (by decide) rfl ?_
          refine V_goto X 4 dX11_peopleAt_36 (by decide) ?_
          refine V_weak (lv' := [some (.ref (a 0)), some (.int (nI x)), some (.int (nI y)), some (.int (nI (p + 1)))]) (And.intro rfl (And.intro rfl (And.intro rfl (And.intro rfl trivial)))) ?_
          exact ih_4 y (p + 1) (by omega) (by simp only [pAt, hy, if_neg c_2]; exact (Nat.or_zero _).symm) (by omega)
        · refine V_iload_n X dX11_peopleAt_27 rfl ?_
          refine V_iconst X (nI 1) dX11_peopleAt_28 (by decide) ?_
          refine V_iload_n X dX11_peopleAt_29 rfl ?_
          refine V_ishl1N X dX11_peopleAt_30 (by omega) ?_
          refine V_iorN X dX11_peopleAt_31 ?_
          refine V_istore_n X dX11_peopleAt_32 (by decide) rfl ?_
          refine V_iincN X (c := 1) dX11_peopleAt_33 rfl (by decide) rfl ?_
          refine V_goto X 4 dX11_peopleAt_36 (by decide) ?_
          refine V_weak (lv' := [some (.ref (a 0)), some (.int (nI x)), some (.int (nI (y ||| (2 ^ p)))), some (.int (nI (p + 1)))]) (And.intro rfl (And.intro rfl (And.intro rfl (And.intro rfl trivial)))) ?_
          exact ih_4 (y ||| (2 ^ p)) (p + 1) (by omega) (by simp only [pAt, hy, if_pos c_2]) (by omega)
  refine V_weak (lv' := [some (.ref (a 0)), some (.int (nI x)), some (.int (nI 0)), some (.int (nI 0))]) (And.intro rfl (And.intro rfl (And.intro rfl (And.intro rfl trivial)))) ?_
  exact L_4 _ 0 0 (by omega) rfl (Nat.lt_succ_self _)
set_option maxHeartbeats 4000000 in
set_option maxRecDepth 100000 in
theorem c_X11_rainsUntilGone (l : Launch) (G : mvG) (a : Nat → Nat) (im : Nat → Nat → Nat) (kd : Nat → Nat) (re : Nat) (pa : Nat) (fa : Nat) (b : Nat → Nat) (c : Nat → Nat) (kk : Nat → Nat) (ts : Nat → Nat) (bt : Nat → Int) (sp : Nat → Int) (qu : Nat → Nat) (bs : Int) (tr : Int64) (w : Nat → Nat) (v : Nat → Nat) (n : Nat) (k : Nat) (wh : Nat → Nat) (de : Nat → Nat) (t : Nat → Int32) (sv : Nat) (vt : Nat) (ps : Nat) (x : Nat) (hk : 1 ≤ k ∧ k ≤ 9) (hde : ∀ j, de j ≤ 9) (hx : x < 36) : KQ l yX11_rainsUntilGone cX11_rainsUntilGone 3 (some .int) (1, 21) G [.ref (a 0), .int (nI x)] [gMoot G a (fun j => im j 0) kd re (b 0) (c 0) pa fa (nF kk) (nF ts) (sF bt) (sF sp) (nF qu) (iI bs) tr, gRoll G b (nF w) (nF v) (nI n) (nI k), gMo G c (nF wh) (nF de) t (nI sv) (nI vt) (nI ps)] (fun (_ : Unit) => some (.int (nI ((de x + k - 1) / k)))) (fun (_ : Unit) => True) (fun (_ : Unit) => [gMoot G a (fun j => im j 0) kd re (b 0) (c 0) pa fa (nF kk) (nF ts) (sF bt) (sF sp) (nF qu) (iI bs) tr, gRoll G b (nF w) (nF v) (nI n) (nI k), gMo G c (nF wh) (nF de) t (nI sv) (nI vt) (nI ps)]) := by
  refine KQ.mk (by decide +kernel) (fun _ _ => rfl) [some (.ref (a 0)), some (.int (nI x)), none] (Nat.le_of_ble_eq_true rfl) rfl (fun C X Y hC => ?_)
  subst hC
  refine V_aload_n X dX11_rainsUntilGone_0 rfl ?_
  refine V_get X fl_X11_19 0 0 rfl rfl rfl dX11_rainsUntilGone_1 ?_
  refine V_get X fl_X11_193 1 0 rfl rfl rfl dX11_rainsUntilGone_4 ?_
  refine V_istore_n X dX11_rainsUntilGone_7 (by decide) rfl ?_
  refine V_iload_n X dX11_rainsUntilGone_8 rfl ?_
  refine V_iconst X (nI 1) dX11_rainsUntilGone_9 (by decide) ?_
  refine V_icmp_geN X 15 dX11_rainsUntilGone_10 (by decide) (by omega) (by decide) (fun c_1 => ?_) (fun c_1 => ?_)
  · refine V_aload_n X dX11_rainsUntilGone_15 rfl ?_
    refine V_get X fl_X11_26 0 0 rfl rfl rfl dX11_rainsUntilGone_16 ?_
    refine V_iload_n X dX11_rainsUntilGone_19 rfl ?_
    refine V_callV (rest := []) X (c_X3_deepAt (Cl C) G c wh de t sv vt ps x (by first | assumption | omega)) mi_X3_deepAt kw_2_145 kw_2_146 kw_2_147 dX11_rainsUntilGone_20 [2] rfl (by decide) 2 0 rfl rfl rfl rfl rfl rfl (by decide) (Nat.le_of_ble_eq_true rfl) ⟨rfl, rfl⟩ (fun _ _ => ?_)
    show V C 0 0 [gMoot G a (fun j => im j 0) kd re (b 0) (c 0) pa fa (nF kk) (nF ts) (sF bt) (sF sp) (nF qu) (iI bs) tr, gRoll G b (nF w) (nF v) (nI n) (nI k), gMo G c (nF wh) (nF de) t (nI sv) (nI vt) (nI ps)] 23 [some (.ref (a 0)), some (.int (nI x)), some (.int (nI k))] [.int (nI (de x))]
    have hdx := hde x
    refine V_iload_n X dX11_rainsUntilGone_23 rfl ?_
    refine V_iaddN X dX11_rainsUntilGone_24 ?_
    refine V_iconst X (nI 1) dX11_rainsUntilGone_25 (by decide) ?_
    refine V_isubN X dX11_rainsUntilGone_26 (by omega) ?_
    refine V_iload_n X dX11_rainsUntilGone_27 rfl ?_
    refine V_idivN X dX11_rainsUntilGone_28 (by omega) (by omega) (by omega) ?_
    exact V_iret X Y () trivial (mv_rn (by rfl)) rfl rfl dX11_rainsUntilGone_29
  · exfalso; omega
set_option maxHeartbeats 4000000 in
set_option maxRecDepth 100000 in
theorem c_X11_wouldPass (l : Launch) (G : mvG) (a : Nat → Nat) (im : Nat → Nat → Nat) (kd : Nat → Nat) (re : Nat) (pa : Nat) (fa : Nat) (b : Nat → Nat) (c : Nat → Nat) (kk : Nat → Nat) (ts : Nat → Nat) (bt : Nat → Int) (sp : Nat → Int) (qu : Nat → Nat) (bs : Int) (tr : Int64) (w : Nat → Nat) (v : Nat → Nat) (n : Nat) (k : Nat) (wh : Nat → Nat) (de : Nat → Nat) (t : Nat → Int32) (sv : Nat) (vt : Nat) (ps : Nat) (x : Nat) (hn : n ≤ 5) (hwh : ∀ j, wh j < 36) (hv : ∀ j, v j ≤ 9) (hx : x < 6) : KQ l yX11_wouldPass cX11_wouldPass 5 (some .boolean) (1, 21) G [.ref (a 0), .int (nI x)] [gMoot G a (fun j => im j 0) kd re (b 0) (c 0) pa fa (nF kk) (nF ts) (sF bt) (sF sp) (nF qu) (iI bs) tr, gRoll G b (nF w) (nF v) (nI n) (nI k), gMo G c (nF wh) (nF de) t (nI sv) (nI vt) (nI ps)] (fun (zz : Nat) => some (.int (nI zz))) (fun (zz : Nat) => (zz = 1 ∧ vAg wh v x n < vFor wh v x n) ∨ (zz = 0 ∧ vFor wh v x n ≤ vAg wh v x n)) (fun (zz : Nat) => [gMoot G a (fun j => im j 0) kd re (b 0) (c 0) pa fa (nF kk) (nF ts) (sF bt) (sF sp) (nF qu) (iI bs) tr, gRoll G b (nF w) (nF v) (nI n) (nI k), gMo G c (nF wh) (nF de) t (nI sv) (nI vt) (nI ps)]) := by
  refine KQ.mk (by decide +kernel) (fun _ _ => rfl) [some (.ref (a 0)), some (.int (nI x)), none, none, none] (Nat.le_of_ble_eq_true rfl) rfl (fun C X Y hC => ?_)
  subst hC
  refine V_iconst X (nI 0) dX11_wouldPass_0 (by decide) ?_
  refine V_istore_n X dX11_wouldPass_1 (by decide) rfl ?_
  refine V_iconst X (nI 0) dX11_wouldPass_2 (by decide) ?_
  refine V_istore_n X dX11_wouldPass_3 (by decide) rfl ?_
  have L_4 : ∀ (fz_4 : Nat) (y : Int) (p : Nat) (hp : p ≤ n) (hb : -9 * (p : Int) ≤ y ∧ y ≤ 9 * (p : Int)) (hy : y = (vFor wh v x p : Int) - vAg wh v x p), (n - p) < fz_4 → V C 0 0 [gMoot G a (fun j => im j 0) kd re (b 0) (c 0) pa fa (nF kk) (nF ts) (sF bt) (sF sp) (nF qu) (iI bs) tr, gRoll G b (nF w) (nF v) (nI n) (nI k), gMo G c (nF wh) (nF de) t (nI sv) (nI vt) (nI ps)] 4 [some (.ref (a 0)), some (.int (nI x)), some (.int (iI y)), some (.int (nI p)), none] [] := by
    intro fz_4
    induction fz_4 with
    | zero => intro y p hp hb hy hf_4; exact absurd hf_4 (Nat.not_lt_zero _)
    | succ fz_4 ih_4 =>
      intro y p hp hb hy hf_4
      refine V_iload_n X dX11_wouldPass_4 rfl ?_
      refine V_aload_n X dX11_wouldPass_5 rfl ?_
      refine V_get X fl_X11_19 0 0 rfl rfl rfl dX11_wouldPass_6 ?_
      refine V_get X fl_X11_257 1 0 rfl rfl rfl dX11_wouldPass_9 ?_
      refine V_icmp_geN X 71 dX11_wouldPass_12 (by decide) (by omega) (by omega) (fun c_1 => ?_) (fun c_1 => ?_)
      · refine V_iload_n X dX11_wouldPass_71 rfl ?_
        have hpn : p = n := by omega
        rw [hpn] at hy
        refine V_if_leI (i := y) X 79 dX11_wouldPass_72 (by decide) (iI_toInt (by omega) (by omega)) (fun c_2 => ?_) (fun c_2 => ?_)
        · refine V_iconst X (nI 0) dX11_wouldPass_79 (by decide) ?_
          exact V_iret X Y 0 (by omega) rfl rfl rfl dX11_wouldPass_80
        · refine V_iconst X (nI 1) dX11_wouldPass_75 (by decide) ?_
          refine V_goto X 80 dX11_wouldPass_76 (by decide) ?_
          exact V_iret X Y 1 (by omega) rfl rfl rfl dX11_wouldPass_80
      · refine V_aload_n X dX11_wouldPass_15 rfl ?_
        refine V_get X fl_X11_26 0 0 rfl rfl rfl dX11_wouldPass_16 ?_
        refine V_iload_n X dX11_wouldPass_19 rfl ?_
        refine V_callV (rest := []) X (c_X3_placeOf (Cl C) G c wh de t sv vt ps p (by first | assumption | omega)) mi_X3_placeOf kw_2_157 kw_2_158 kw_2_159 dX11_wouldPass_20 [2] rfl (by decide) 2 0 rfl rfl rfl rfl rfl rfl (by decide) (Nat.le_of_ble_eq_true rfl) ⟨rfl, rfl⟩ (fun _ _ => ?_)
        show V C 0 0 [gMoot G a (fun j => im j 0) kd re (b 0) (c 0) pa fa (nF kk) (nF ts) (sF bt) (sF sp) (nF qu) (iI bs) tr, gRoll G b (nF w) (nF v) (nI n) (nI k), gMo G c (nF wh) (nF de) t (nI sv) (nI vt) (nI ps)] 23 [some (.ref (a 0)), some (.int (nI x)), some (.int (iI y)), some (.int (nI p)), none] [.int (nI (wh p))]
        have hwp := hwh p
        have hvp := hv p
        refine V_bipush X (nI 6) dX11_wouldPass_23 (by decide) ?_
        refine V_idivN X dX11_wouldPass_25 (by omega) (by omega) (by omega) ?_
        refine V_istore X dX11_wouldPass_26 (by decide) rfl ?_
        refine V_iload X dX11_wouldPass_28 rfl ?_
        refine V_iload_n X dX11_wouldPass_30 rfl ?_
        refine V_icmp_geN X 48 dX11_wouldPass_31 (by decide) (by omega) (by omega) (fun c_3 => ?_) (fun c_3 => ?_)
        · refine V_iload X dX11_wouldPass_48 rfl ?_
          refine V_iload_n X dX11_wouldPass_50 rfl ?_
          refine V_icmp_leN X 65 dX11_wouldPass_51 (by decide) (by omega) (by omega) (fun c_4 => ?_) (fun c_4 => ?_)
          · refine V_iincN X (c := 1) dX11_wouldPass_65 rfl (by decide) rfl ?_
            refine V_goto X 4 dX11_wouldPass_68 (by decide) ?_
            refine V_weak (lv' := [some (.ref (a 0)), some (.int (nI x)), some (.int (iI y)), some (.int (nI (p + 1))), none]) (And.intro rfl (And.intro rfl (And.intro rfl (And.intro rfl trivial)))) ?_
            exact ih_4 y (p + 1) (by omega) (by omega) (by simp only [vFor, vAg]; (repeat' split) <;> omega) (by omega)
          · refine V_iload_n X dX11_wouldPass_54 rfl ?_
            refine V_aload_n X dX11_wouldPass_55 rfl ?_
            refine V_get X fl_X11_19 0 0 rfl rfl rfl dX11_wouldPass_56 ?_
            refine V_iload_n X dX11_wouldPass_59 rfl ?_
            refine V_callV (rest := [.int (iI y)]) X (c_X7_voicesOf (Cl C) G b w v n k p (by first | assumption | omega)) mi_X7_voicesOf kw_2_180 kw_2_181 kw_2_182 dX11_wouldPass_60 [1] rfl (by decide) 1 0 rfl rfl rfl rfl rfl rfl (by decide) (Nat.le_of_ble_eq_true rfl) ⟨rfl, rfl⟩ (fun _ _ => ?_)
            show V C 0 0 [gMoot G a (fun j => im j 0) kd re (b 0) (c 0) pa fa (nF kk) (nF ts) (sF bt) (sF sp) (nF qu) (iI bs) tr, gRoll G b (nF w) (nF v) (nI n) (nI k), gMo G c (nF wh) (nF de) t (nI sv) (nI vt) (nI ps)] 63 [some (.ref (a 0)), some (.int (nI x)), some (.int (iI y)), some (.int (nI p)), some (.int (nI ((wh p) / 6)))] [.int (nI (v p)), .int (iI y)]
            have hvp := hv p
            refine V_two (show (iI y) = iI (y : Int) from rfl) (show (nI (v p)) = iI ((v p : Nat) : Int) from rfl) ?_
            refine V_isubS X dX11_wouldPass_63 ?_
            refine V_istore_n X dX11_wouldPass_64 (by decide) rfl ?_
            refine V_iincN X (c := 1) dX11_wouldPass_65 rfl (by decide) rfl ?_
            refine V_goto X 4 dX11_wouldPass_68 (by decide) ?_
            refine V_weak (lv' := [some (.ref (a 0)), some (.int (nI x)), some (.int (iI ((y : Int) - ((v p : Nat) : Int)))), some (.int (nI (p + 1))), none]) (And.intro rfl (And.intro rfl (And.intro rfl (And.intro rfl trivial)))) ?_
            exact ih_4 ((y : Int) - ((v p : Nat) : Int)) (p + 1) (by omega) (by omega) (by simp only [vFor, vAg]; (repeat' split) <;> omega) (by omega)
        · refine V_iload_n X dX11_wouldPass_34 rfl ?_
          refine V_aload_n X dX11_wouldPass_35 rfl ?_
          refine V_get X fl_X11_19 0 0 rfl rfl rfl dX11_wouldPass_36 ?_
          refine V_iload_n X dX11_wouldPass_39 rfl ?_
          refine V_callV (rest := [.int (iI y)]) X (c_X7_voicesOf (Cl C) G b w v n k p (by first | assumption | omega)) mi_X7_voicesOf kw_2_180 kw_2_181 kw_2_182 dX11_wouldPass_40 [1] rfl (by decide) 1 0 rfl rfl rfl rfl rfl rfl (by decide) (Nat.le_of_ble_eq_true rfl) ⟨rfl, rfl⟩ (fun _ _ => ?_)
          show V C 0 0 [gMoot G a (fun j => im j 0) kd re (b 0) (c 0) pa fa (nF kk) (nF ts) (sF bt) (sF sp) (nF qu) (iI bs) tr, gRoll G b (nF w) (nF v) (nI n) (nI k), gMo G c (nF wh) (nF de) t (nI sv) (nI vt) (nI ps)] 43 [some (.ref (a 0)), some (.int (nI x)), some (.int (iI y)), some (.int (nI p)), some (.int (nI ((wh p) / 6)))] [.int (nI (v p)), .int (iI y)]
          have hvp := hv p
          refine V_two (show (iI y) = iI (y : Int) from rfl) (show (nI (v p)) = iI ((v p : Nat) : Int) from rfl) ?_
          refine V_iaddS X dX11_wouldPass_43 ?_
          refine V_istore_n X dX11_wouldPass_44 (by decide) rfl ?_
          refine V_goto X 65 dX11_wouldPass_45 (by decide) ?_
          refine V_iincN X (c := 1) dX11_wouldPass_65 rfl (by decide) rfl ?_
          refine V_goto X 4 dX11_wouldPass_68 (by decide) ?_
          refine V_weak (lv' := [some (.ref (a 0)), some (.int (nI x)), some (.int (iI ((y : Int) + ((v p : Nat) : Int)))), some (.int (nI (p + 1))), none]) (And.intro rfl (And.intro rfl (And.intro rfl (And.intro rfl trivial)))) ?_
          exact ih_4 ((y : Int) + ((v p : Nat) : Int)) (p + 1) (by omega) (by omega) (by simp only [vFor, vAg]; (repeat' split) <;> omega) (by omega)
  refine V_weak (lv' := [some (.ref (a 0)), some (.int (nI x)), some (.int (nI 0)), some (.int (nI 0)), none]) (And.intro rfl (And.intro rfl (And.intro rfl (And.intro rfl trivial)))) ?_
  exact L_4 _ 0 0 (by omega) (by omega) rfl (Nat.lt_succ_self _)
set_option maxHeartbeats 4000000 in
set_option maxRecDepth 100000 in
theorem c_X11_passingLines (l : Launch) (G : mvG) (a : Nat → Nat) (im : Nat → Nat → Nat) (kd : Nat → Nat) (re : Nat) (pa : Nat) (fa : Nat) (b : Nat → Nat) (c : Nat → Nat) (kk : Nat → Nat) (ts : Nat → Nat) (bt : Nat → Int) (sp : Nat → Int) (qu : Nat → Nat) (bs : Int) (tr : Int64) (w : Nat → Nat) (v : Nat → Nat) (n : Nat) (k : Nat) (wh : Nat → Nat) (de : Nat → Nat) (t : Nat → Int32) (sv : Nat) (vt : Nat) (ps : Nat) (hn : n ≤ 5) (hwh : ∀ j, wh j < 36) (hv : ∀ j, v j ≤ 9) : KQ l yX11_passingLines cX11_passingLines 3 (some .int) (2, 45) G [.ref (a 0)] [gMoot G a (fun j => im j 0) kd re (b 0) (c 0) pa fa (nF kk) (nF ts) (sF bt) (sF sp) (nF qu) (iI bs) tr, gRoll G b (nF w) (nF v) (nI n) (nI k), gMo G c (nF wh) (nF de) t (nI sv) (nI vt) (nI ps)] (fun (_ : Unit) => some (.int (nI (lns wh v n 6)))) (fun (_ : Unit) => True) (fun (_ : Unit) => [gMoot G a (fun j => im j 0) kd re (b 0) (c 0) pa fa (nF kk) (nF ts) (sF bt) (sF sp) (nF qu) (iI bs) tr, gRoll G b (nF w) (nF v) (nI n) (nI k), gMo G c (nF wh) (nF de) t (nI sv) (nI vt) (nI ps)]) := by
  refine KQ.mk (by decide +kernel) (fun _ _ => rfl) [some (.ref (a 0)), none, none] (Nat.le_of_ble_eq_true rfl) rfl (fun C X Y hC => ?_)
  subst hC
  refine V_iconst X (nI 0) dX11_passingLines_0 (by decide) ?_
  refine V_istore_n X dX11_passingLines_1 (by decide) rfl ?_
  refine V_iconst X (nI 0) dX11_passingLines_2 (by decide) ?_
  refine V_istore_n X dX11_passingLines_3 (by decide) rfl ?_
  have L_4 : ∀ (fz_4 : Nat) (y : Nat) (q : Nat) (hq : q ≤ 6) (hy : y = lns wh v n q), (6 - q) < fz_4 → V C 0 0 [gMoot G a (fun j => im j 0) kd re (b 0) (c 0) pa fa (nF kk) (nF ts) (sF bt) (sF sp) (nF qu) (iI bs) tr, gRoll G b (nF w) (nF v) (nI n) (nI k), gMo G c (nF wh) (nF de) t (nI sv) (nI vt) (nI ps)] 4 [some (.ref (a 0)), some (.int (nI y)), some (.int (nI q))] [] := by
    intro fz_4
    induction fz_4 with
    | zero => intro y q hq hy hf_4; exact absurd hf_4 (Nat.not_lt_zero _)
    | succ fz_4 ih_4 =>
      intro y q hq hy hf_4
      refine V_iload_n X dX11_passingLines_4 rfl ?_
      refine V_bipush X (nI 6) dX11_passingLines_5 (by decide) ?_
      refine V_icmp_geN X 30 dX11_passingLines_7 (by decide) (by omega) (by decide) (fun c_1 => ?_) (fun c_1 => ?_)
      · refine V_iload_n X dX11_passingLines_30 rfl ?_
        exact V_iret X Y () trivial (mv_rn (by rw [hy, show q = 6 by omega])) rfl rfl dX11_passingLines_31
      · refine V_aload_n X dX11_passingLines_10 rfl ?_
        refine V_iload_n X dX11_passingLines_11 rfl ?_
        refine V_callV (rest := []) X (c_X11_wouldPass (Cl C) G a im kd re pa fa b c kk ts bt sp qu bs tr w v n k wh de t sv vt ps q (by first | assumption | omega) (by first | assumption | omega) (by first | assumption | omega) (by first | assumption | omega)) mi_X11_wouldPass kw_2_196 kw_2_198 kw_s_12 dX11_passingLines_12 [0, 1, 2] rfl (by decide) 0 0 rfl rfl rfl rfl rfl rfl (by decide) (Nat.le_of_ble_eq_true rfl) ⟨rfl, rfl⟩ (fun u_ hu_3 => ?_)
        obtain ⟨b_2, rfl⟩ : ∃ z, z = u_ := ⟨_, rfl⟩
        have hu_3 : (b_2 = 1 ∧ vAg wh v q n < vFor wh v q n) ∨ (b_2 = 0 ∧ vFor wh v q n ≤ vAg wh v q n) := hu_3
        show V C 0 0 [gMoot G a (fun j => im j 0) kd re (b 0) (c 0) pa fa (nF kk) (nF ts) (sF bt) (sF sp) (nF qu) (iI bs) tr, gRoll G b (nF w) (nF v) (nI n) (nI k), gMo G c (nF wh) (nF de) t (nI sv) (nI vt) (nI ps)] 15 [some (.ref (a 0)), some (.int (nI y)), some (.int (nI q))] [.int (nI b_2)]
        refine V_if_eqN X 24 dX11_passingLines_15 (by decide) (by omega) (fun c_4 => ?_) (fun c_4 => ?_)
        · refine V_iincN X (c := 1) dX11_passingLines_24 rfl (by decide) rfl ?_
          refine V_goto X 4 dX11_passingLines_27 (by decide) ?_
          refine V_weak (lv' := [some (.ref (a 0)), some (.int (nI y)), some (.int (nI (q + 1)))]) (And.intro rfl (And.intro rfl (And.intro rfl trivial))) ?_
          exact ih_4 y (q + 1) (by omega) (by simp only [lns, hy]; first | rw [if_pos (by omega)] | rw [if_neg (by omega), Nat.or_zero]) (by omega)
        · refine V_iload_n X dX11_passingLines_18 rfl ?_
          refine V_iconst X (nI 1) dX11_passingLines_19 (by decide) ?_
          refine V_iload_n X dX11_passingLines_20 rfl ?_
          refine V_ishl1N X dX11_passingLines_21 (by omega) ?_
          refine V_iorN X dX11_passingLines_22 ?_
          refine V_istore_n X dX11_passingLines_23 (by decide) rfl ?_
          refine V_iincN X (c := 1) dX11_passingLines_24 rfl (by decide) rfl ?_
          refine V_goto X 4 dX11_passingLines_27 (by decide) ?_
          refine V_weak (lv' := [some (.ref (a 0)), some (.int (nI (y ||| (2 ^ q)))), some (.int (nI (q + 1)))]) (And.intro rfl (And.intro rfl (And.intro rfl trivial))) ?_
          exact ih_4 (y ||| (2 ^ q)) (q + 1) (by omega) (by simp only [lns, hy]; first | rw [if_pos (by omega)] | rw [if_neg (by omega), Nat.or_zero]) (by omega)
  refine V_weak (lv' := [some (.ref (a 0)), some (.int (nI 0)), some (.int (nI 0))]) (And.intro rfl (And.intro rfl (And.intro rfl trivial))) ?_
  exact L_4 _ 0 0 (by omega) rfl (Nat.lt_succ_self _)
set_option maxHeartbeats 4000000 in
set_option maxRecDepth 100000 in
theorem c_X11_clearSquare (l : Launch) (G : mvG) (a : Nat → Nat) (im : Nat → Nat → Nat) (kd : Nat → Nat) (re : Nat) (pa : Nat) (fa : Nat) (b : Nat → Nat) (c : Nat → Nat) (kk : Nat → Nat) (ts : Nat → Nat) (bt : Nat → Int) (sp : Nat → Int) (qu : Nat → Nat) (bs : Int) (tr : Int64) (wh : Nat → Nat) (de : Nat → Nat) (t : Nat → Int32) (sv : Nat) (vt : Nat) (ps : Nat) (u : Nat) (hde : ∀ j, de j ≤ 9) (hu : u ≤ 6) : KQ l yX11_clearSquare cX11_clearSquare 4 (some .int) (3, 66) G [.ref (a 0), .int (nI u)] [gMoot G a (fun j => im j 0) kd re (b 0) (c 0) pa fa (nF kk) (nF ts) (sF bt) (sF sp) (nF qu) (iI bs) tr, gMo G c (nF wh) (nF de) t (nI sv) (nI vt) (nI ps)] (fun (zz : Int) => some (.int (iI zz))) (fun (zz : Int) => csq de u zz) (fun (zz : Int) => [gMoot G a (fun j => im j 0) kd re (b 0) (c 0) pa fa (nF kk) (nF ts) (sF bt) (sF sp) (nF qu) (iI bs) tr, gMo G c (nF wh) (nF de) t (nI sv) (nI vt) (nI ps)]) := by
  refine KQ.mk (by decide +kernel) (fun _ _ => rfl) [some (.ref (a 0)), some (.int (nI u)), none, none] (Nat.le_of_ble_eq_true rfl) rfl (fun C X Y hC => ?_)
  subst hC
  refine V_iload_n X dX11_clearSquare_0 rfl ?_
  refine V_iconst X (nI 1) dX11_clearSquare_1 (by decide) ?_
  refine V_icmp_geN X 8 dX11_clearSquare_2 (by decide) (by omega) (by decide) (fun c_1 => ?_) (fun c_1 => ?_)
  · refine V_iconst X (nI 0) dX11_clearSquare_8 (by decide) ?_
    refine V_istore_n X dX11_clearSquare_9 (by decide) rfl ?_
    have L_10 : ∀ (fz_10 : Nat) (x : Nat) (hx : x ≤ 7 - u) (hc : ∀ x' y', x' < x → x' + u ≤ 6 → y' + u ≤ 6 → ¬ clr de x' y' u), (7 - x) < fz_10 → V C 0 0 [gMoot G a (fun j => im j 0) kd re (b 0) (c 0) pa fa (nF kk) (nF ts) (sF bt) (sF sp) (nF qu) (iI bs) tr, gMo G c (nF wh) (nF de) t (nI sv) (nI vt) (nI ps)] 10 [some (.ref (a 0)), some (.int (nI u)), some (.int (nI x)), none] [] := by
      intro fz_10
      induction fz_10 with
      | zero => intro x hx hc hf_10; exact absurd hf_10 (Nat.not_lt_zero _)
      | succ fz_10 ih_10 =>
        intro x hx hc hf_10
        refine V_iload_n X dX11_clearSquare_10 rfl ?_
        refine V_iload_n X dX11_clearSquare_11 rfl ?_
        refine V_iaddN X dX11_clearSquare_12 ?_
        refine V_bipush X (nI 6) dX11_clearSquare_13 (by decide) ?_
        refine V_icmp_gtN X 60 dX11_clearSquare_15 (by decide) (by omega) (by decide) (fun c_2 => ?_) (fun c_2 => ?_)
        · refine V_bipush X (-9) dX11_clearSquare_60 (by decide) ?_
          exact V_iret X Y (-9) (Or.inl ⟨rfl, Or.inr (fun ⟨x', y', h1, h2, h3⟩ => hc x' y' (by omega) h1 h2 h3)⟩) (mv_ri (by rfl)) rfl rfl dX11_clearSquare_62
        · refine V_iconst X (nI 0) dX11_clearSquare_18 (by decide) ?_
          refine V_istore_n X dX11_clearSquare_19 (by decide) rfl ?_
          have L_20 : ∀ (fz_20 : Nat) (y : Nat) (hy : y ≤ 7 - u) (hc2 : ∀ y', y' < y → y' + u ≤ 6 → ¬ clr de x y' u), (7 - y) < fz_20 → V C 0 0 [gMoot G a (fun j => im j 0) kd re (b 0) (c 0) pa fa (nF kk) (nF ts) (sF bt) (sF sp) (nF qu) (iI bs) tr, gMo G c (nF wh) (nF de) t (nI sv) (nI vt) (nI ps)] 20 [some (.ref (a 0)), some (.int (nI u)), some (.int (nI x)), some (.int (nI y))] [] := by
            intro fz_20
            induction fz_20 with
            | zero => intro y hy hc2 hf_20; exact absurd hf_20 (Nat.not_lt_zero _)
            | succ fz_20 ih_20 =>
              intro y hy hc2 hf_20
              refine V_iload_n X dX11_clearSquare_20 rfl ?_
              refine V_iload_n X dX11_clearSquare_21 rfl ?_
              refine V_iaddN X dX11_clearSquare_22 ?_
              refine V_bipush X (nI 6) dX11_clearSquare_23 (by decide) ?_
              refine V_icmp_gtN X 54 dX11_clearSquare_25 (by decide) (by omega) (by decide) (fun c_3 => ?_) (fun c_3 => ?_)
              · refine V_iincN X (c := 1) dX11_clearSquare_54 rfl (by decide) rfl ?_
                refine V_goto X 10 dX11_clearSquare_57 (by decide) ?_
                refine V_weak (lv' := [some (.ref (a 0)), some (.int (nI u)), some (.int (nI (x + 1))), none]) (And.intro rfl (And.intro rfl (And.intro rfl trivial))) ?_
                exact ih_10 (x + 1) (by omega) (fun x' y' h1 h2 h3 => by rcases Nat.lt_or_ge x' x with z | z; exact hc x' y' z h2 h3; rw [show x' = x by omega]; exact hc2 y' (by omega) h3) (by omega)
              · refine V_aload_n X dX11_clearSquare_28 rfl ?_
                refine V_get X fl_X11_26 0 0 rfl rfl rfl dX11_clearSquare_29 ?_
                refine V_iload_n X dX11_clearSquare_32 rfl ?_
                refine V_iload_n X dX11_clearSquare_33 rfl ?_
                refine V_iload_n X dX11_clearSquare_34 rfl ?_
                refine V_callV (rest := []) X (c_X3_isClear (Cl C) G c wh de t sv vt ps x y u (by first | assumption | omega) (by first | assumption | omega) (by first | assumption | omega)) mi_X3_isClear kw_2_208 kw_2_209 kw_2_210 dX11_clearSquare_35 [1] rfl (by decide) 1 0 rfl rfl rfl rfl rfl rfl (by decide) (Nat.le_of_ble_eq_true rfl) ⟨rfl, rfl⟩ (fun u_ hu_5 => ?_)
                obtain ⟨b_4, rfl⟩ : ∃ z, z = u_ := ⟨_, rfl⟩
                have hu_5 : (b_4 = 1 ∧ clr de x y u) ∨ (b_4 = 0 ∧ ¬ clr de x y u) := hu_5
                show V C 0 0 [gMoot G a (fun j => im j 0) kd re (b 0) (c 0) pa fa (nF kk) (nF ts) (sF bt) (sF sp) (nF qu) (iI bs) tr, gMo G c (nF wh) (nF de) t (nI sv) (nI vt) (nI ps)] 38 [some (.ref (a 0)), some (.int (nI u)), some (.int (nI x)), some (.int (nI y))] [.int (nI b_4)]
                skip
                refine V_if_eqN X 48 dX11_clearSquare_38 (by decide) (by omega) (fun c_6 => ?_) (fun c_6 => ?_)
                · refine V_iincN X (c := 1) dX11_clearSquare_48 rfl (by decide) rfl ?_
                  refine V_goto X 20 dX11_clearSquare_51 (by decide) ?_
                  refine V_weak (lv' := [some (.ref (a 0)), some (.int (nI u)), some (.int (nI x)), some (.int (nI (y + 1)))]) (And.intro rfl (And.intro rfl (And.intro rfl (And.intro rfl trivial)))) ?_
                  exact ih_20 (y + 1) (by omega) (fun y' h1 h3 => by rcases Nat.lt_or_ge y' y with z | z; exact hc2 y' z h3; rw [show y' = y by omega]; rcases hu_5 with h | h; exact absurd h.1 (by omega); exact h.2) (by omega)
                · refine V_bipush X (nI 10) dX11_clearSquare_41 (by decide) ?_
                  refine V_iload_n X dX11_clearSquare_43 rfl ?_
                  refine V_imulN X dX11_clearSquare_44 ?_
                  refine V_iload_n X dX11_clearSquare_45 rfl ?_
                  refine V_iaddN X dX11_clearSquare_46 ?_
                  exact V_iret X Y (((10 * x) + y : Nat) : Int) (Or.inr ⟨by omega, x, y, by omega, by omega, by rcases hu_5 with h | h; exact h.2; exact absurd h.1 (by omega), by omega, fun x' y' h1 h2 h3 => by rcases Nat.lt_trichotomy x' x with z | z | z; exact absurd h3 (hc x' y' z h1 h2); (refine Or.inr ⟨z.symm, ?_⟩; rcases Nat.lt_or_ge y' y with q | q; exact absurd (z ▸ h3) (hc2 y' q h2); exact q); exact Or.inl z⟩) (mv_ri (by rfl)) rfl rfl dX11_clearSquare_47
          refine V_weak (lv' := [some (.ref (a 0)), some (.int (nI u)), some (.int (nI x)), some (.int (nI 0))]) (And.intro rfl (And.intro rfl (And.intro rfl (And.intro rfl trivial)))) ?_
          exact L_20 _ 0 (by omega) (fun _ h => absurd h (by omega)) (Nat.lt_succ_self _)
    refine V_weak (lv' := [some (.ref (a 0)), some (.int (nI u)), some (.int (nI 0)), none]) (And.intro rfl (And.intro rfl (And.intro rfl trivial))) ?_
    exact L_10 _ 0 (by omega) (fun _ _ h => absurd h (by omega)) (Nat.lt_succ_self _)
  · refine V_bipush X (-9) dX11_clearSquare_5 (by decide) ?_
    exact V_iret X Y (-9) (Or.inl ⟨rfl, Or.inl (by omega)⟩) (mv_ri (by rfl)) rfl rfl dX11_clearSquare_7
set_option maxHeartbeats 4000000 in
set_option maxRecDepth 100000 in
theorem c_X11_widestClear (l : Launch) (G : mvG) (a : Nat → Nat) (im : Nat → Nat → Nat) (kd : Nat → Nat) (re : Nat) (pa : Nat) (fa : Nat) (b : Nat → Nat) (c : Nat → Nat) (kk : Nat → Nat) (ts : Nat → Nat) (bt : Nat → Int) (sp : Nat → Int) (qu : Nat → Nat) (bs : Int) (tr : Int64) (wh : Nat → Nat) (de : Nat → Nat) (t : Nat → Int32) (sv : Nat) (vt : Nat) (ps : Nat) (hde : ∀ j, de j ≤ 9) : KQ l yX11_widestClear cX11_widestClear 2 (some .int) (4, 89) G [.ref (a 0)] [gMoot G a (fun j => im j 0) kd re (b 0) (c 0) pa fa (nF kk) (nF ts) (sF bt) (sF sp) (nF qu) (iI bs) tr, gMo G c (nF wh) (nF de) t (nI sv) (nI vt) (nI ps)] (fun (zz : Nat) => some (.int (nI zz))) (fun (zz : Nat) => wid de zz) (fun (zz : Nat) => [gMoot G a (fun j => im j 0) kd re (b 0) (c 0) pa fa (nF kk) (nF ts) (sF bt) (sF sp) (nF qu) (iI bs) tr, gMo G c (nF wh) (nF de) t (nI sv) (nI vt) (nI ps)]) := by
  refine KQ.mk (by decide +kernel) (fun _ _ => rfl) [some (.ref (a 0)), none] (Nat.le_of_ble_eq_true rfl) rfl (fun C X Y hC => ?_)
  subst hC
  refine V_bipush X (nI 6) dX11_widestClear_0 (by decide) ?_
  refine V_istore_n X dX11_widestClear_2 (by decide) rfl ?_
  have L_3 : ∀ (fz_3 : Nat) (y : Int) (hy : 0 ≤ y ∧ y ≤ 6) (hc : ∀ w' : Nat, y < (w' : Int) → w' ≤ 6 → ¬ sq de w'), y.toNat < fz_3 → V C 0 0 [gMoot G a (fun j => im j 0) kd re (b 0) (c 0) pa fa (nF kk) (nF ts) (sF bt) (sF sp) (nF qu) (iI bs) tr, gMo G c (nF wh) (nF de) t (nI sv) (nI vt) (nI ps)] 3 [some (.ref (a 0)), some (.int (iI y))] [] := by
    intro fz_3
    induction fz_3 with
    | zero => intro y hy hc hf_3; exact absurd hf_3 (Nat.not_lt_zero _)
    | succ fz_3 ih_3 =>
      intro y hy hc hf_3
      refine V_iload_n X dX11_widestClear_3 rfl ?_
      refine V_if_leI (i := y) X 25 dX11_widestClear_4 (by decide) (iI_toInt (by omega) (by omega)) (fun c_1 => ?_) (fun c_1 => ?_)
      · refine V_iconst X (nI 0) dX11_widestClear_25 (by decide) ?_
        exact V_iret X Y 0 ⟨by omega, Or.inl rfl, fun w' h1 h2 => hc w' (by omega) h2⟩ rfl rfl rfl dX11_widestClear_26
      · refine V_aload_n X dX11_widestClear_7 rfl ?_
        refine V_iload_n X dX11_widestClear_8 rfl ?_
        refine V_topi (show (iI y) = (nI y.toNat) from (mv_sn (by omega))) ?_
        refine V_callV (rest := []) X (c_X11_clearSquare (Cl C) G a im kd re pa fa b c kk ts bt sp qu bs tr wh de t sv vt ps y.toNat (by first | assumption | omega) (by first | assumption | omega)) mi_X11_clearSquare kw_2_204 kw_2_206 kw_s_14 dX11_widestClear_9 [0, 1] rfl (by decide) 0 0 rfl rfl rfl rfl rfl rfl (by decide) (Nat.le_of_ble_eq_true rfl) ⟨rfl, rfl⟩ (fun u_ hu_3 => ?_)
        obtain ⟨z_2, rfl⟩ : ∃ z, z = u_ := ⟨_, rfl⟩
        have hu_3 : csq de y.toNat z_2 := hu_3
        show V C 0 0 [gMoot G a (fun j => im j 0) kd re (b 0) (c 0) pa fa (nF kk) (nF ts) (sF bt) (sF sp) (nF qu) (iI bs) tr, gMo G c (nF wh) (nF de) t (nI sv) (nI vt) (nI ps)] 12 [some (.ref (a 0)), some (.int (iI y))] [.int (iI z_2)]
        have hcs := hu_3
        have hz9 : -9 ≤ z_2 ∧ z_2 ≤ 100 := by rcases hu_3 with h | h; omega; (obtain ⟨_, p, q, h1, h2, _, e, _⟩ := h; omega)
        refine V_bipush X (-9) dX11_widestClear_12 (by decide) ?_
        refine V_icmp_eqI (i := z_2) (j := -9) X 19 dX11_widestClear_14 (by decide) (iI_toInt (by omega) (by omega)) (by rfl) (fun c_4 => ?_) (fun c_4 => ?_)
        · refine V_iincS X (c := -1) dX11_widestClear_19 rfl (by decide) rfl ?_
          refine V_goto X 3 dX11_widestClear_22 (by decide) ?_
          refine V_weak (lv' := [some (.ref (a 0)), some (.int (iI (y + -1)))]) (And.intro rfl (And.intro rfl trivial)) ?_
          exact ih_3 (y + -1) (by omega) (fun w' h1 h2 => by rcases Nat.lt_or_ge y.toNat w' with z | z; exact hc w' (by omega) h2; rw [show w' = y.toNat by omega]; rcases hcs with h | h; exact h.2.resolve_left (by omega); (obtain ⟨_, p, q, _, _, _, e, _⟩ := h; exact absurd e (by omega))) (by omega)
        · refine V_iload_n X dX11_widestClear_17 rfl ?_
          refine V_topi (show (iI y) = (nI y.toNat) from (mv_sn (by omega))) ?_
          exact V_iret X Y y.toNat ⟨by omega, Or.inr (by rcases hcs with h | h; exact absurd h.1 (by assumption); (obtain ⟨_, p, q, h1, h2, h3, _⟩ := h; exact ⟨p, q, h1, h2, h3⟩)), fun w' h1 h2 => hc w' (by omega) h2⟩ rfl rfl rfl dX11_widestClear_18
  refine V_weak (lv' := [some (.ref (a 0)), some (.int (nI 6))]) (And.intro rfl (And.intro rfl trivial)) ?_
  exact L_3 _ 6 (by omega) (fun w h1 h2 => absurd h1 (by omega)) (Nat.lt_succ_self _)
set_option maxHeartbeats 4000000 in
set_option maxRecDepth 100000 in
theorem c_X11_loseImages (l : Launch) (G : mvG) (a : Nat → Nat) (im : Nat → Nat → Nat) (kd : Nat → Nat) (re : Nat) (pa : Nat) (fa : Nat) (b : Nat → Nat) (c : Nat → Nat) (kk : Nat → Nat) (ts : Nat → Nat) (bt : Nat → Int) (sp : Nat → Int) (qu : Nat → Nat) (bs : Int) (tr : Int64) : KQ l yX11_loseImages cX11_loseImages 2 none (0, 0) G [.ref (a 0)] [gMoot G a (fun j => im j 0) kd re (b 0) (c 0) pa fa (nF kk) (nF ts) (sF bt) (sF sp) (nF qu) (iI bs) tr] (fun (_ : Unit) => none) (fun (_ : Unit) => True) (fun (_ : Unit) => [gMoot G a (fun j => im j 0) kd re (b 0) (c 0) pa fa (nF (fun _ => 0)) (nF ts) (sF bt) (sF sp) (nF qu) (iI bs) tr]) := by
  refine KQ.mk (by decide +kernel) (fun _ _ => rfl) [some (.ref (a 0)), none] (Nat.le_of_ble_eq_true rfl) rfl (fun C X Y hC => ?_)
  subst hC
  refine V_iconst X (nI 0) dX11_loseImages_0 (by decide) ?_
  refine V_istore_n X dX11_loseImages_1 (by decide) rfl ?_
  have L_2 : ∀ (fz_2 : Nat) (q : Nat) (g : Nat → Nat) (hq : q ≤ 2) (hg : ∀ j, j < q → g j = 0), (2 - q) < fz_2 → V C 0 0 [gMoot G a (fun j => im j 0) kd re (b 0) (c 0) pa fa (nF g) (nF ts) (sF bt) (sF sp) (nF qu) (iI bs) tr] 2 [some (.ref (a 0)), some (.int (nI q))] [] := by
    intro fz_2
    induction fz_2 with
    | zero => intro q g hq hg hf_2; exact absurd hf_2 (Nat.not_lt_zero _)
    | succ fz_2 ih_2 =>
      intro q g hq hg hf_2
      refine V_iload_n X dX11_loseImages_2 rfl ?_
      refine V_aload_n X dX11_loseImages_3 rfl ?_
      refine V_get X fl_X11_48 0 0 rfl rfl rfl dX11_loseImages_4 ?_
      refine V_alen X (t0 := 1) 0 2 (nI 2) rfl rfl rfl rfl dX11_loseImages_7 ?_
      refine V_icmp_geN X 24 dX11_loseImages_8 (by decide) (by omega) (by decide) (fun c_1 => ?_) (fun c_1 => ?_)
      · refine V_arr (nF (fun _ => 0)) 0 2 rfl rfl (fun j hj => congrArg nI (hg j (by omega))) ?_
        show V C 0 0 [gMoot G a (fun j => im j 0) kd re (b 0) (c 0) pa fa (nF (fun _ => 0)) (nF ts) (sF bt) (sF sp) (nF qu) (iI bs) tr] 24 [some (.ref (a 0)), some (.int (nI q))] []
        exact V_vret X Y () trivial rfl rfl dX11_loseImages_24
      · refine V_aload_n X dX11_loseImages_11 rfl ?_
        refine V_get X fl_X11_48 0 0 rfl rfl rfl dX11_loseImages_12 ?_
        refine V_iload_n X dX11_loseImages_15 rfl ?_
        refine V_iconst X (nI 0) dX11_loseImages_16 (by decide) ?_
        refine V_zastN X 0 2 rfl rfl (by omega) (by decide) (by omega) dX11_loseImages_17 ?_
        show V C 0 0 [gMoot G a (fun j => im j 0) kd re (b 0) (c 0) pa fa (nF (va_up g q 0)) (nF ts) (sF bt) (sF sp) (nF qu) (iI bs) tr] 18 [some (.ref (a 0)), some (.int (nI q))] []
        refine V_iincN X (c := 1) dX11_loseImages_18 rfl (by decide) rfl ?_
        refine V_goto X 2 dX11_loseImages_21 (by decide) ?_
        refine V_weak (lv' := [some (.ref (a 0)), some (.int (nI (q + 1)))]) (And.intro rfl (And.intro rfl trivial)) ?_
        exact ih_2 (q + 1) (va_up g q 0) (by omega) (fun j h => by simp only [va_up]; split <;> first | rfl | exact hg j (by omega)) (by omega)
  refine V_weak (lv' := [some (.ref (a 0)), some (.int (nI 0))]) (And.intro rfl (And.intro rfl trivial)) ?_
  exact L_2 _ 0 kk (by omega) (fun j h => absurd h (Nat.not_lt_zero _)) (Nat.lt_succ_self _)
set_option maxHeartbeats 4000000 in
set_option maxRecDepth 100000 in
theorem c_X11_setsThatCan (l : Launch) (G : mvG) (a : Nat → Nat) (im : Nat → Nat → Nat) (kd : Nat → Nat) (re : Nat) (pa : Nat) (b : Nat → Nat) (c : Nat → Nat) (kk : Nat → Nat) (ts : Nat → Nat) (bt : Nat → Int) (sp : Nat → Int) (qu : Nat → Nat) (bs : Int) (tr : Int64) (w : Nat → Nat) (v : Nat → Nat) (n : Nat) (k : Nat) (f : Nat → Nat) (el : Nat → Nat) (fd : Nat → Nat) (m : Nat) (x : Nat) (hn : n ≤ 5) (hw : ∀ j, w j ≤ 4) (hm : m ≤ 6) (hel : ∀ j, j < m → el j < 32) (hfd : ∀ j, j < m → fd j ≤ 9) (hx : x < 32) : KQ l yX11_setsThatCan cX11_setsThatCan 4 (some .int) (3, 68) G [.ref (a 0), .int (nI x)] [gMoot G a (fun j => im j 0) kd re (b 0) (c 0) pa (f 0) (nF kk) (nF ts) (sF bt) (sF sp) (nF qu) (iI bs) tr, gRoll G b (nF w) (nF v) (nI n) (nI k), gFind G f (nF el) (nF fd) (nI m)] (fun (_ : Unit) => some (.int (nI (canN w n el fd m x (2 ^ n))))) (fun (_ : Unit) => True) (fun (_ : Unit) => [gMoot G a (fun j => im j 0) kd re (b 0) (c 0) pa (f 0) (nF kk) (nF ts) (sF bt) (sF sp) (nF qu) (iI bs) tr, gRoll G b (nF w) (nF v) (nI n) (nI k), gFind G f (nF el) (nF fd) (nI m)]) := by
  refine KQ.mk (by decide +kernel) (fun _ _ => rfl) [some (.ref (a 0)), some (.int (nI x)), none, none] (Nat.le_of_ble_eq_true rfl) rfl (fun C X Y hC => ?_)
  subst hC
  refine V_iconst X (nI 0) dX11_setsThatCan_0 (by decide) ?_
  refine V_istore_n X dX11_setsThatCan_1 (by decide) rfl ?_
  refine V_iconst X (nI 0) dX11_setsThatCan_2 (by decide) ?_
  refine V_istore_n X dX11_setsThatCan_3 (by decide) rfl ?_
  have L_4 : ∀ (fz_4 : Nat) (y : Nat) (q : Nat) (hq : q ≤ 2 ^ n) (hyq : y ≤ q) (hy : y = canN w n el fd m x q), (2 ^ n - q) < fz_4 → V C 0 0 [gMoot G a (fun j => im j 0) kd re (b 0) (c 0) pa (f 0) (nF kk) (nF ts) (sF bt) (sF sp) (nF qu) (iI bs) tr, gRoll G b (nF w) (nF v) (nI n) (nI k), gFind G f (nF el) (nF fd) (nI m)] 4 [some (.ref (a 0)), some (.int (nI x)), some (.int (nI y)), some (.int (nI q))] [] := by
    intro fz_4
    induction fz_4 with
    | zero => intro y q hq hyq hy hf_4; exact absurd hf_4 (Nat.not_lt_zero _)
    | succ fz_4 ih_4 =>
      intro y q hq hyq hy hf_4
      refine V_iload_n X dX11_setsThatCan_4 rfl ?_
      refine V_aload_n X dX11_setsThatCan_5 rfl ?_
      refine V_get X fl_X11_19 0 0 rfl rfl rfl dX11_setsThatCan_6 ?_
      refine V_callV (rest := [.int (nI q)]) X (c_X7_sets (Cl C) G b w v n k (by first | assumption | omega)) mi_X7_sets kw_3_44 kw_3_45 kw_3_46 dX11_setsThatCan_9 [1] rfl (by decide) 1 0 rfl rfl rfl rfl rfl rfl (by decide) (Nat.le_of_ble_eq_true rfl) ⟨rfl, rfl⟩ (fun _ _ => ?_)
      show V C 0 0 [gMoot G a (fun j => im j 0) kd re (b 0) (c 0) pa (f 0) (nF kk) (nF ts) (sF bt) (sF sp) (nF qu) (iI bs) tr, gRoll G b (nF w) (nF v) (nI n) (nI k), gFind G f (nF el) (nF fd) (nI m)] 12 [some (.ref (a 0)), some (.int (nI x)), some (.int (nI y)), some (.int (nI q))] [.int (nI (2 ^ n)), .int (nI q)]
      have hp5 := pow5 hn
      refine V_icmp_geN X 46 dX11_setsThatCan_12 (by decide) (by omega) (by omega) (fun c_1 => ?_) (fun c_1 => ?_)
      · refine V_iload_n X dX11_setsThatCan_46 rfl ?_
        exact V_iret X Y () trivial (mv_rn (by rw [hy, show q = 2 ^ n by omega])) rfl rfl dX11_setsThatCan_47
      · refine V_iload_n X dX11_setsThatCan_15 rfl ?_
        refine V_iload_n X dX11_setsThatCan_16 rfl ?_
        refine V_iandN X dX11_setsThatCan_17 ?_
        refine V_iload_n X dX11_setsThatCan_18 rfl ?_
        refine V_icmp_neN X 40 dX11_setsThatCan_19 (by decide) (by first | omega | exact Nat.lt_of_le_of_lt Nat.and_le_left (by omega)) (by omega) (fun c_2 => ?_) (fun c_2 => ?_)
        · refine V_iincN X (c := 1) dX11_setsThatCan_40 rfl (by decide) rfl ?_
          refine V_goto X 4 dX11_setsThatCan_43 (by decide) ?_
          refine V_weak (lv' := [some (.ref (a 0)), some (.int (nI x)), some (.int (nI y)), some (.int (nI (q + 1)))]) (And.intro rfl (And.intro rfl (And.intro rfl (And.intro rfl trivial)))) ?_
          exact ih_4 y (q + 1) (by omega) (by omega) (by simp only [canN, hy]; first | rw [if_pos ⟨by assumption, by have := fitB_iff (w := w) (n := n) (el := el) (fd := fd) (m := m) (s := q); rcases hu_4 with h | h; exact this.mpr h.2; exact absurd h.1 (by assumption)⟩] | rw [if_neg (fun z => by have := fitB_iff (w := w) (n := n) (el := el) (fd := fd) (m := m) (s := q); first | (exact absurd z.1 (by assumption)) | (rcases hu_4 with h | h; exact absurd h.1 (by omega); exact absurd (this.mp z.2) h.2)), Nat.add_zero]) (by omega)
        · refine V_aload_n X dX11_setsThatCan_22 rfl ?_
          refine V_get X fl_X11_40 0 0 rfl rfl rfl dX11_setsThatCan_23 ?_
          refine V_aload_n X dX11_setsThatCan_26 rfl ?_
          refine V_get X fl_X11_19 0 0 rfl rfl rfl dX11_setsThatCan_27 ?_
          refine V_iload_n X dX11_setsThatCan_30 rfl ?_
          refine V_callV (rest := []) X (c_X1_fit (Cl C) G f el fd m b w v n k q (by first | assumption | omega) (by first | assumption | omega) (by have := pow5 hn; omega) (by first | assumption | omega) (by first | assumption | omega) (fun j _ => by have := hw j; omega)) mi_X1_fit kw_3_132 kw_3_133 kw_3_134 dX11_setsThatCan_31 [2, 1] rfl (by decide) 2 0 rfl rfl rfl rfl rfl rfl (by decide) (Nat.le_of_ble_eq_true rfl) ⟨rfl, rfl⟩ (fun u_ hu_4 => ?_)
          obtain ⟨b_3, rfl⟩ : ∃ z, z = u_ := ⟨_, rfl⟩
          have hu_4 : (b_3 = 1 ∧ fitF w n el fd m q) ∨ (b_3 = 0 ∧ ¬ fitF w n el fd m q) := hu_4
          show V C 0 0 [gMoot G a (fun j => im j 0) kd re (b 0) (c 0) pa (f 0) (nF kk) (nF ts) (sF bt) (sF sp) (nF qu) (iI bs) tr, gRoll G b (nF w) (nF v) (nI n) (nI k), gFind G f (nF el) (nF fd) (nI m)] 34 [some (.ref (a 0)), some (.int (nI x)), some (.int (nI y)), some (.int (nI q))] [.int (nI b_3)]
          skip
          refine V_if_eqN X 40 dX11_setsThatCan_34 (by decide) (by omega) (fun c_5 => ?_) (fun c_5 => ?_)
          · refine V_iincN X (c := 1) dX11_setsThatCan_40 rfl (by decide) rfl ?_
            refine V_goto X 4 dX11_setsThatCan_43 (by decide) ?_
            refine V_weak (lv' := [some (.ref (a 0)), some (.int (nI x)), some (.int (nI y)), some (.int (nI (q + 1)))]) (And.intro rfl (And.intro rfl (And.intro rfl (And.intro rfl trivial)))) ?_
            exact ih_4 y (q + 1) (by omega) (by omega) (by simp only [canN, hy]; first | rw [if_pos ⟨by assumption, by have := fitB_iff (w := w) (n := n) (el := el) (fd := fd) (m := m) (s := q); rcases hu_4 with h | h; exact this.mpr h.2; exact absurd h.1 (by assumption)⟩] | rw [if_neg (fun z => by have := fitB_iff (w := w) (n := n) (el := el) (fd := fd) (m := m) (s := q); first | (exact absurd z.1 (by assumption)) | (rcases hu_4 with h | h; exact absurd h.1 (by omega); exact absurd (this.mp z.2) h.2)), Nat.add_zero]) (by omega)
          · refine V_iincN X (c := 1) dX11_setsThatCan_37 rfl (by decide) rfl ?_
            refine V_iincN X (c := 1) dX11_setsThatCan_40 rfl (by decide) rfl ?_
            refine V_goto X 4 dX11_setsThatCan_43 (by decide) ?_
            refine V_weak (lv' := [some (.ref (a 0)), some (.int (nI x)), some (.int (nI (y + 1))), some (.int (nI (q + 1)))]) (And.intro rfl (And.intro rfl (And.intro rfl (And.intro rfl trivial)))) ?_
            exact ih_4 (y + 1) (q + 1) (by omega) (by omega) (by simp only [canN, hy]; first | rw [if_pos ⟨by assumption, by have := fitB_iff (w := w) (n := n) (el := el) (fd := fd) (m := m) (s := q); rcases hu_4 with h | h; exact this.mpr h.2; exact absurd h.1 (by assumption)⟩] | rw [if_neg (fun z => by have := fitB_iff (w := w) (n := n) (el := el) (fd := fd) (m := m) (s := q); first | (exact absurd z.1 (by assumption)) | (rcases hu_4 with h | h; exact absurd h.1 (by omega); exact absurd (this.mp z.2) h.2)), Nat.add_zero]) (by omega)
  refine V_weak (lv' := [some (.ref (a 0)), some (.int (nI x)), some (.int (nI 0)), some (.int (nI 0))]) (And.intro rfl (And.intro rfl (And.intro rfl (And.intro rfl trivial)))) ?_
  exact L_4 _ 0 0 (Nat.zero_le _) (by omega) rfl (Nat.lt_succ_self _)
set_option maxHeartbeats 4000000 in
set_option maxRecDepth 100000 in
theorem c_X11_peopleInAll (l : Launch) (G : mvG) (a : Nat → Nat) (im : Nat → Nat → Nat) (kd : Nat → Nat) (re : Nat) (pa : Nat) (b : Nat → Nat) (c : Nat → Nat) (kk : Nat → Nat) (ts : Nat → Nat) (bt : Nat → Int) (sp : Nat → Int) (qu : Nat → Nat) (bs : Int) (tr : Int64) (w : Nat → Nat) (v : Nat → Nat) (n : Nat) (k : Nat) (f : Nat → Nat) (el : Nat → Nat) (fd : Nat → Nat) (m : Nat) (hn : n ≤ 5) (hw : ∀ j, w j ≤ 4) (hm : m ≤ 6) (hel : ∀ j, j < m → el j < 32) (hfd : ∀ j, j < m → fd j ≤ 9) : KQ l yX11_peopleInAll cX11_peopleInAll 3 (some .int) (3, 68) G [.ref (a 0)] [gMoot G a (fun j => im j 0) kd re (b 0) (c 0) pa (f 0) (nF kk) (nF ts) (sF bt) (sF sp) (nF qu) (iI bs) tr, gRoll G b (nF w) (nF v) (nI n) (nI k), gFind G f (nF el) (nF fd) (nI m)] (fun (_ : Unit) => some (.int (iI (inAll w n el fd m (2 ^ n))))) (fun (_ : Unit) => True) (fun (_ : Unit) => [gMoot G a (fun j => im j 0) kd re (b 0) (c 0) pa (f 0) (nF kk) (nF ts) (sF bt) (sF sp) (nF qu) (iI bs) tr, gRoll G b (nF w) (nF v) (nI n) (nI k), gFind G f (nF el) (nF fd) (nI m)]) := by
  refine KQ.mk (by decide +kernel) (fun _ _ => rfl) [some (.ref (a 0)), none, none] (Nat.le_of_ble_eq_true rfl) rfl (fun C X Y hC => ?_)
  subst hC
  refine V_bipush X (-9) dX11_peopleInAll_0 (by decide) ?_
  refine V_istore_n X dX11_peopleInAll_2 (by decide) rfl ?_
  refine V_iconst X (nI 0) dX11_peopleInAll_3 (by decide) ?_
  refine V_istore_n X dX11_peopleInAll_4 (by decide) rfl ?_
  have L_5 : ∀ (fz_5 : Nat) (y : Int) (q : Nat) (hq : q ≤ 2 ^ n) (hy : y = inAll w n el fd m q), (2 ^ n - q) < fz_5 → V C 0 0 [gMoot G a (fun j => im j 0) kd re (b 0) (c 0) pa (f 0) (nF kk) (nF ts) (sF bt) (sF sp) (nF qu) (iI bs) tr, gRoll G b (nF w) (nF v) (nI n) (nI k), gFind G f (nF el) (nF fd) (nI m)] 5 [some (.ref (a 0)), some (.int (iI y)), some (.int (nI q))] [] := by
    intro fz_5
    induction fz_5 with
    | zero => intro y q hq hy hf_5; exact absurd hf_5 (Nat.not_lt_zero _)
    | succ fz_5 ih_5 =>
      intro y q hq hy hf_5
      refine V_iload_n X dX11_peopleInAll_5 rfl ?_
      refine V_aload_n X dX11_peopleInAll_6 rfl ?_
      refine V_get X fl_X11_19 0 0 rfl rfl rfl dX11_peopleInAll_7 ?_
      refine V_callV (rest := [.int (nI q)]) X (c_X7_sets (Cl C) G b w v n k (by first | assumption | omega)) mi_X7_sets kw_3_44 kw_3_45 kw_3_46 dX11_peopleInAll_10 [1] rfl (by decide) 1 0 rfl rfl rfl rfl rfl rfl (by decide) (Nat.le_of_ble_eq_true rfl) ⟨rfl, rfl⟩ (fun _ _ => ?_)
      show V C 0 0 [gMoot G a (fun j => im j 0) kd re (b 0) (c 0) pa (f 0) (nF kk) (nF ts) (sF bt) (sF sp) (nF qu) (iI bs) tr, gRoll G b (nF w) (nF v) (nI n) (nI k), gFind G f (nF el) (nF fd) (nI m)] 13 [some (.ref (a 0)), some (.int (iI y)), some (.int (nI q))] [.int (nI (2 ^ n)), .int (nI q)]
      have hp5 := pow5 hn
      have hy9 := inAll_le w n el fd m q
      rw [← hy] at hy9
      refine V_icmp_geN X 51 dX11_peopleInAll_13 (by decide) (by omega) (by omega) (fun c_1 => ?_) (fun c_1 => ?_)
      · refine V_iload_n X dX11_peopleInAll_51 rfl ?_
        exact V_iret X Y () trivial (mv_si (by rw [hy, show q = 2 ^ n by omega])) rfl rfl dX11_peopleInAll_52
      · refine V_aload_n X dX11_peopleInAll_16 rfl ?_
        refine V_get X fl_X11_40 0 0 rfl rfl rfl dX11_peopleInAll_17 ?_
        refine V_aload_n X dX11_peopleInAll_20 rfl ?_
        refine V_get X fl_X11_19 0 0 rfl rfl rfl dX11_peopleInAll_21 ?_
        refine V_iload_n X dX11_peopleInAll_24 rfl ?_
        refine V_callV (rest := []) X (c_X1_fit (Cl C) G f el fd m b w v n k q (by first | assumption | omega) (by first | assumption | omega) (by have := pow5 hn; omega) (by first | assumption | omega) (by first | assumption | omega) (fun j _ => by have := hw j; omega)) mi_X1_fit kw_3_132 kw_3_133 kw_3_134 dX11_peopleInAll_25 [2, 1] rfl (by decide) 2 0 rfl rfl rfl rfl rfl rfl (by decide) (Nat.le_of_ble_eq_true rfl) ⟨rfl, rfl⟩ (fun u_ hu_3 => ?_)
        obtain ⟨b_2, rfl⟩ : ∃ z, z = u_ := ⟨_, rfl⟩
        have hu_3 : (b_2 = 1 ∧ fitF w n el fd m q) ∨ (b_2 = 0 ∧ ¬ fitF w n el fd m q) := hu_3
        show V C 0 0 [gMoot G a (fun j => im j 0) kd re (b 0) (c 0) pa (f 0) (nF kk) (nF ts) (sF bt) (sF sp) (nF qu) (iI bs) tr, gRoll G b (nF w) (nF v) (nI n) (nI k), gFind G f (nF el) (nF fd) (nI m)] 28 [some (.ref (a 0)), some (.int (iI y)), some (.int (nI q))] [.int (nI b_2)]
        have hu_4 := hu_3
        refine V_if_eqN X 45 dX11_peopleInAll_28 (by decide) (by omega) (fun c_4 => ?_) (fun c_4 => ?_)
        · refine V_iincN X (c := 1) dX11_peopleInAll_45 rfl (by decide) rfl ?_
          refine V_goto X 5 dX11_peopleInAll_48 (by decide) ?_
          refine V_weak (lv' := [some (.ref (a 0)), some (.int (iI y)), some (.int (nI (q + 1)))]) (And.intro rfl (And.intro rfl (And.intro rfl trivial))) ?_
          exact ih_5 y (q + 1) (by omega) (inAll_st hy hu_4 (by first | exact Or.inl ⟨by assumption, by omega⟩ | exact Or.inr (Or.inl ⟨by assumption, by assumption, by omega⟩) | exact Or.inr (Or.inr ⟨by assumption, by assumption, by omega⟩))) (by omega)
        · refine V_iload_n X dX11_peopleInAll_31 rfl ?_
          refine V_bipush X (-9) dX11_peopleInAll_32 (by decide) ?_
          refine V_icmp_neI (i := y) (j := -9) X 41 dX11_peopleInAll_34 (by decide) (iI_toInt (by omega) (by omega)) (by rfl) (fun c_5 => ?_) (fun c_5 => ?_)
          · refine V_iload_n X dX11_peopleInAll_41 rfl ?_
            refine V_topi (show (iI y) = (nI y.toNat) from (mv_sn (by omega))) ?_
            refine V_iload_n X dX11_peopleInAll_42 rfl ?_
            refine V_iandN X dX11_peopleInAll_43 ?_
            refine V_istore_n X dX11_peopleInAll_44 (by decide) rfl ?_
            refine V_iincN X (c := 1) dX11_peopleInAll_45 rfl (by decide) rfl ?_
            refine V_goto X 5 dX11_peopleInAll_48 (by decide) ?_
            refine V_weak (lv' := [some (.ref (a 0)), some (.int (nI (y.toNat &&& q))), some (.int (nI (q + 1)))]) (And.intro rfl (And.intro rfl (And.intro rfl trivial))) ?_
            exact ih_5 (y.toNat &&& q : Nat) (q + 1) (by omega) (inAll_st hy hu_4 (by first | exact Or.inl ⟨by assumption, by omega⟩ | exact Or.inr (Or.inl ⟨by assumption, by assumption, by omega⟩) | exact Or.inr (Or.inr ⟨by assumption, by assumption, by omega⟩))) (by omega)
          · refine V_iload_n X dX11_peopleInAll_37 rfl ?_
            refine V_goto X 44 dX11_peopleInAll_38 (by decide) ?_
            refine V_istore_n X dX11_peopleInAll_44 (by decide) rfl ?_
            refine V_iincN X (c := 1) dX11_peopleInAll_45 rfl (by decide) rfl ?_
            refine V_goto X 5 dX11_peopleInAll_48 (by decide) ?_
            refine V_weak (lv' := [some (.ref (a 0)), some (.int (nI q)), some (.int (nI (q + 1)))]) (And.intro rfl (And.intro rfl (And.intro rfl trivial))) ?_
            exact ih_5 (q : Nat) (q + 1) (by omega) (inAll_st hy hu_4 (by first | exact Or.inl ⟨by assumption, by omega⟩ | exact Or.inr (Or.inl ⟨by assumption, by assumption, by omega⟩) | exact Or.inr (Or.inr ⟨by assumption, by assumption, by omega⟩))) (by omega)
  refine V_weak (lv' := [some (.ref (a 0)), some (.int (-9)), some (.int (nI 0))]) (And.intro rfl (And.intro rfl (And.intro rfl trivial))) ?_
  exact L_5 _ (-9) 0 (Nat.zero_le _) rfl (Nat.lt_succ_self _)
set_option maxHeartbeats 4000000 in
set_option maxRecDepth 100000 in
theorem c_X11_peopleInSome (l : Launch) (G : mvG) (a : Nat → Nat) (im : Nat → Nat → Nat) (kd : Nat → Nat) (re : Nat) (pa : Nat) (b : Nat → Nat) (c : Nat → Nat) (kk : Nat → Nat) (ts : Nat → Nat) (bt : Nat → Int) (sp : Nat → Int) (qu : Nat → Nat) (bs : Int) (tr : Int64) (w : Nat → Nat) (v : Nat → Nat) (n : Nat) (k : Nat) (f : Nat → Nat) (el : Nat → Nat) (fd : Nat → Nat) (m : Nat) (hn : n ≤ 5) (hw : ∀ j, w j ≤ 4) (hm : m ≤ 6) (hel : ∀ j, j < m → el j < 32) (hfd : ∀ j, j < m → fd j ≤ 9) : KQ l yX11_peopleInSome cX11_peopleInSome 3 (some .int) (3, 68) G [.ref (a 0)] [gMoot G a (fun j => im j 0) kd re (b 0) (c 0) pa (f 0) (nF kk) (nF ts) (sF bt) (sF sp) (nF qu) (iI bs) tr, gRoll G b (nF w) (nF v) (nI n) (nI k), gFind G f (nF el) (nF fd) (nI m)] (fun (_ : Unit) => some (.int (nI (inSome w n el fd m (2 ^ n))))) (fun (_ : Unit) => True) (fun (_ : Unit) => [gMoot G a (fun j => im j 0) kd re (b 0) (c 0) pa (f 0) (nF kk) (nF ts) (sF bt) (sF sp) (nF qu) (iI bs) tr, gRoll G b (nF w) (nF v) (nI n) (nI k), gFind G f (nF el) (nF fd) (nI m)]) := by
  refine KQ.mk (by decide +kernel) (fun _ _ => rfl) [some (.ref (a 0)), none, none] (Nat.le_of_ble_eq_true rfl) rfl (fun C X Y hC => ?_)
  subst hC
  refine V_iconst X (nI 0) dX11_peopleInSome_0 (by decide) ?_
  refine V_istore_n X dX11_peopleInSome_1 (by decide) rfl ?_
  refine V_iconst X (nI 0) dX11_peopleInSome_2 (by decide) ?_
  refine V_istore_n X dX11_peopleInSome_3 (by decide) rfl ?_
  have L_4 : ∀ (fz_4 : Nat) (y : Nat) (q : Nat) (hq : q ≤ 2 ^ n) (hy : y = inSome w n el fd m q), (2 ^ n - q) < fz_4 → V C 0 0 [gMoot G a (fun j => im j 0) kd re (b 0) (c 0) pa (f 0) (nF kk) (nF ts) (sF bt) (sF sp) (nF qu) (iI bs) tr, gRoll G b (nF w) (nF v) (nI n) (nI k), gFind G f (nF el) (nF fd) (nI m)] 4 [some (.ref (a 0)), some (.int (nI y)), some (.int (nI q))] [] := by
    intro fz_4
    induction fz_4 with
    | zero => intro y q hq hy hf_4; exact absurd hf_4 (Nat.not_lt_zero _)
    | succ fz_4 ih_4 =>
      intro y q hq hy hf_4
      refine V_iload_n X dX11_peopleInSome_4 rfl ?_
      refine V_aload_n X dX11_peopleInSome_5 rfl ?_
      refine V_get X fl_X11_19 0 0 rfl rfl rfl dX11_peopleInSome_6 ?_
      refine V_callV (rest := [.int (nI q)]) X (c_X7_sets (Cl C) G b w v n k (by first | assumption | omega)) mi_X7_sets kw_3_44 kw_3_45 kw_3_46 dX11_peopleInSome_9 [1] rfl (by decide) 1 0 rfl rfl rfl rfl rfl rfl (by decide) (Nat.le_of_ble_eq_true rfl) ⟨rfl, rfl⟩ (fun _ _ => ?_)
      show V C 0 0 [gMoot G a (fun j => im j 0) kd re (b 0) (c 0) pa (f 0) (nF kk) (nF ts) (sF bt) (sF sp) (nF qu) (iI bs) tr, gRoll G b (nF w) (nF v) (nI n) (nI k), gFind G f (nF el) (nF fd) (nI m)] 12 [some (.ref (a 0)), some (.int (nI y)), some (.int (nI q))] [.int (nI (2 ^ n)), .int (nI q)]
      have hp5 := pow5 hn
      refine V_icmp_geN X 40 dX11_peopleInSome_12 (by decide) (by omega) (by omega) (fun c_1 => ?_) (fun c_1 => ?_)
      · refine V_iload_n X dX11_peopleInSome_40 rfl ?_
        exact V_iret X Y () trivial (mv_rn (by rw [hy, show q = 2 ^ n by omega])) rfl rfl dX11_peopleInSome_41
      · refine V_aload_n X dX11_peopleInSome_15 rfl ?_
        refine V_get X fl_X11_40 0 0 rfl rfl rfl dX11_peopleInSome_16 ?_
        refine V_aload_n X dX11_peopleInSome_19 rfl ?_
        refine V_get X fl_X11_19 0 0 rfl rfl rfl dX11_peopleInSome_20 ?_
        refine V_iload_n X dX11_peopleInSome_23 rfl ?_
        refine V_callV (rest := []) X (c_X1_fit (Cl C) G f el fd m b w v n k q (by first | assumption | omega) (by first | assumption | omega) (by have := pow5 hn; omega) (by first | assumption | omega) (by first | assumption | omega) (fun j _ => by have := hw j; omega)) mi_X1_fit kw_3_132 kw_3_133 kw_3_134 dX11_peopleInSome_24 [2, 1] rfl (by decide) 2 0 rfl rfl rfl rfl rfl rfl (by decide) (Nat.le_of_ble_eq_true rfl) ⟨rfl, rfl⟩ (fun u_ hu_3 => ?_)
        obtain ⟨b_2, rfl⟩ : ∃ z, z = u_ := ⟨_, rfl⟩
        have hu_3 : (b_2 = 1 ∧ fitF w n el fd m q) ∨ (b_2 = 0 ∧ ¬ fitF w n el fd m q) := hu_3
        show V C 0 0 [gMoot G a (fun j => im j 0) kd re (b 0) (c 0) pa (f 0) (nF kk) (nF ts) (sF bt) (sF sp) (nF qu) (iI bs) tr, gRoll G b (nF w) (nF v) (nI n) (nI k), gFind G f (nF el) (nF fd) (nI m)] 27 [some (.ref (a 0)), some (.int (nI y)), some (.int (nI q))] [.int (nI b_2)]
        have hu_4 := hu_3
        refine V_if_eqN X 34 dX11_peopleInSome_27 (by decide) (by omega) (fun c_4 => ?_) (fun c_4 => ?_)
        · refine V_iincN X (c := 1) dX11_peopleInSome_34 rfl (by decide) rfl ?_
          refine V_goto X 4 dX11_peopleInSome_37 (by decide) ?_
          refine V_weak (lv' := [some (.ref (a 0)), some (.int (nI y)), some (.int (nI (q + 1)))]) (And.intro rfl (And.intro rfl (And.intro rfl trivial))) ?_
          exact ih_4 y (q + 1) (by omega) (by simp only [inSome, hy]; first | rw [if_pos (by have := fitB_iff (w := w) (n := n) (el := el) (fd := fd) (m := m) (s := q); rcases hu_4 with h | h; exact this.mpr h.2; exact absurd h.1 (by assumption))] | rw [if_neg (fun z => by have := fitB_iff (w := w) (n := n) (el := el) (fd := fd) (m := m) (s := q); rcases hu_4 with h | h; exact absurd h.1 (by omega); exact absurd (this.mp z) h.2)]) (by omega)
        · refine V_iload_n X dX11_peopleInSome_30 rfl ?_
          refine V_iload_n X dX11_peopleInSome_31 rfl ?_
          refine V_iorN X dX11_peopleInSome_32 ?_
          refine V_istore_n X dX11_peopleInSome_33 (by decide) rfl ?_
          refine V_iincN X (c := 1) dX11_peopleInSome_34 rfl (by decide) rfl ?_
          refine V_goto X 4 dX11_peopleInSome_37 (by decide) ?_
          refine V_weak (lv' := [some (.ref (a 0)), some (.int (nI (y ||| q))), some (.int (nI (q + 1)))]) (And.intro rfl (And.intro rfl (And.intro rfl trivial))) ?_
          exact ih_4 (y ||| q) (q + 1) (by omega) (by simp only [inSome, hy]; first | rw [if_pos (by have := fitB_iff (w := w) (n := n) (el := el) (fd := fd) (m := m) (s := q); rcases hu_4 with h | h; exact this.mpr h.2; exact absurd h.1 (by assumption))] | rw [if_neg (fun z => by have := fitB_iff (w := w) (n := n) (el := el) (fd := fd) (m := m) (s := q); rcases hu_4 with h | h; exact absurd h.1 (by omega); exact absurd (this.mp z) h.2)]) (by omega)
  refine V_weak (lv' := [some (.ref (a 0)), some (.int (nI 0)), some (.int (nI 0))]) (And.intro rfl (And.intro rfl (And.intro rfl trivial))) ?_
  exact L_4 _ 0 0 (Nat.zero_le _) rfl (Nat.lt_succ_self _)
