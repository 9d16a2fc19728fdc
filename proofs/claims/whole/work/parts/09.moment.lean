theorem mv_zn {z : Int} {e : Nat} (h : z = (e : Int)) : iI z = nI e := by subst h; rfl
/-- the cell beside a cell, or none -/
def nb (c d : Nat) : Int := if d = 0 then (if 6 ≤ c then (c : Int) - 6 else -9) else if d = 1 then (if c < 30 then (c : Int) + 6 else -9) else if d = 2 then (if 1 ≤ c % 6 then (c : Int) - 1 else -9) else (if c % 6 < 5 then (c : Int) + 1 else -9)
def wyS (n : Nat) : Nat → Nat
  | 0 => 1
  | k + 1 => wyS n k * (n - k) / (k + 1)
def chS (x n : Nat) : Nat → Nat
  | 0 => 0
  | k + 1 => chS x n k + wyS n k * x ^ k * (10 - x) ^ (n - k)
def chStay (g x n : Nat) : Nat := chS x n (min (n + 1) g)
theorem wyS_le : ∀ n, n ≤ 8 → ∀ k, k ≤ 9 → wyS n k ≤ 70 := by decide +kernel
def eucl : Nat → Nat → Nat → Nat
  | 0, x, _ => x
  | f + 1, x, y => if y = 0 then x else eucl f y (x % y)
theorem eucl_0 (f x : Nat) : eucl f x 0 = x := by cases f <;> simp [eucl]
def dAt (d : Nat → Nat) (z : Int) : Nat := if 0 ≤ z ∧ z < 36 then d z.toNat else 0
def dSum (d : Nat → Nat) : Nat → Nat
  | 0 => 0
  | k + 1 => dSum d k + d k
def cntS (d : Nat → Nat) (k : Nat) : Nat → Nat
  | 0 => 0
  | c + 1 => cntS d k c + (if 0 < d c ∧ d c ≤ k then 1 else 0)
def soakD (d : Nat → Nat) (k : Nat) : Nat → Nat := fun j => d j - k
def soakT (d : Nat → Nat) (k : Nat) (t : Nat → Int32) : Nat → Int32 := fun j => if 0 < d j ∧ d j ≤ k then -9 else t j
def tray (d : Nat → Nat) (c : Nat) : Nat := d c + d (c + 1) + d (c + 6) + d (c + 7)
def clr (d : Nat → Nat) (x y w : Nat) : Prop := ∀ i j, x ≤ i → i < x + w → y ≤ j → j < y + w → d (6 * i + j) = 0
theorem mv_nand : ∀ s, s < 32 → ∀ e, e < 32 → nI s &&& (nI e ^^^ (-1)) = nI (s &&& (e ^^^ 31)) := by decide +kernel
theorem bSum_le {f : Nat → Nat} (s : Nat) : ∀ n, (∀ j, j < n → f j ≤ 9) → bSum f s n ≤ 9 * n
  | 0, _ => Nat.le_refl _
  | n + 1, h => by
    have h1 := bSum_le s n (fun j hj => h j (by omega))
    have h2 := h n (by omega)
    simp only [bSum]
    split <;> omega
def fitF (w : Nat → Nat) (n : Nat) (el fd : Nat → Nat) (m s : Nat) : Prop := ∀ j, j < m → min 9 (bSum w (s &&& (el j ^^^ 31)) n) = fd j
theorem soakH {d de d' : Nat → Nat} {k c : Nat} (hd : ∀ j, d j = if j < c then de j - k else de j) (hdc : d c = de c) (h : (d' = d ∧ de c - k = d c) ∨ ∃ v, d' = va_up d c v ∧ v = de c - k) : ∀ j, d' j = if j < c + 1 then de j - k else de j := fun j => by
  rcases h with ⟨rfl, h⟩ | ⟨v, rfl, h⟩
  · rw [hd]
    rcases Nat.lt_trichotomy j c with z | z | z
    · rw [if_pos z, if_pos (by omega)]
    · subst z
      rw [if_neg (by omega), if_pos (by omega)]
      omega
    · rw [if_neg (by omega), if_neg (by omega)]
  · simp only [va_up]
    rcases Nat.lt_trichotomy j c with z | z | z
    · rw [if_neg (by omega), hd, if_pos z, if_pos (by omega)]
    · subst z
      rw [if_pos rfl, if_pos (by omega), h]
    · rw [if_neg (by omega), hd, if_neg (by omega), if_neg (by omega)]
theorem soakG {d de : Nat → Nat} {g t : Nat → Int32} {k c : Nat} {g' : Nat → Int32} (hg : ∀ j, g j = if j < c ∧ 0 < de j ∧ de j ≤ k then -9 else t j) (hd : ∀ j, d j = if j < c then de j - k else de j) (hdc : d c = de c) (h : (g' = g ∧ ¬ (0 < d c ∧ d c ≤ k)) ∨ (g' = upd g c (-9) ∧ (0 < d c ∧ d c ≤ k))) : ∀ j, g' j = if j < c + 1 ∧ 0 < de j ∧ de j ≤ k then -9 else t j := fun j => by
  rcases h with ⟨rfl, h⟩ | ⟨rfl, h⟩
  · rw [hg]
    rcases Nat.lt_trichotomy j c with z | z | z
    · by_cases e : 0 < de j ∧ de j ≤ k
      · rw [if_pos ⟨z, e⟩, if_pos ⟨by omega, e⟩]
      · rw [if_neg (fun q => e q.2), if_neg (fun q => e q.2)]
    · subst z
      rw [hdc] at h
      rw [if_neg (fun q => h q.2), if_neg (fun q => h q.2)]
    · rw [if_neg (fun q => by omega), if_neg (fun q => by omega)]
  · simp only [upd]
    rcases Nat.lt_trichotomy j c with z | z | z
    · rw [if_neg (by omega), hg]
      by_cases e : 0 < de j ∧ de j ≤ k
      · rw [if_pos ⟨z, e⟩, if_pos ⟨by omega, e⟩]
      · rw [if_neg (fun q => e q.2), if_neg (fun q => e q.2)]
    · subst z
      rw [hdc] at h
      rw [if_pos rfl, if_pos ⟨by omega, h⟩]
    · rw [if_neg (by omega), hg, if_neg (fun q => by omega), if_neg (fun q => by omega)]
set_option maxHeartbeats 4000000 in
set_option maxRecDepth 100000 in
theorem c_X11_isCoordinate (l : Launch) (G : mvG) (x : Int) (hx : -2147483648 ≤ x ∧ x < 2147483648) : KQ l yX11_isCoordinate cX11_isCoordinate 1 (some .boolean) (0, 0) G [.int (iI x)] [] (fun (zz : Nat) => some (.int (nI zz))) (fun (zz : Nat) => (zz = 1 ∧ 0 ≤ x ∧ x < 6) ∨ (zz = 0 ∧ (x < 0 ∨ 6 ≤ x))) (fun (zz : Nat) => []) := by
  refine KQ.mk (by decide +kernel) (fun _ _ => rfl) [some (.int (iI x))] (Nat.le_of_ble_eq_true rfl) rfl (fun C X Y hC => ?_)
  subst hC
  refine V_iload_n X dX11_isCoordinate_0 rfl ?_
  refine V_if_ltI (i := x) X 14 dX11_isCoordinate_1 (by decide) (iI_toInt (by omega) (by omega)) (fun c_1 => ?_) (fun c_1 => ?_)
  · refine V_iconst X (nI 0) dX11_isCoordinate_14 (by decide) ?_
    exact V_iret X Y 0 (by omega) rfl rfl rfl dX11_isCoordinate_15
  · refine V_iload_n X dX11_isCoordinate_4 rfl ?_
    refine V_bipush X (nI 6) dX11_isCoordinate_5 (by decide) ?_
    refine V_icmp_geI (i := x) (j := 6) X 14 dX11_isCoordinate_7 (by decide) (iI_toInt (by omega) (by omega)) (nI_toInt (by decide)) (fun c_2 => ?_) (fun c_2 => ?_)
    · refine V_iconst X (nI 0) dX11_isCoordinate_14 (by decide) ?_
      exact V_iret X Y 0 (by omega) rfl rfl rfl dX11_isCoordinate_15
    · refine V_iconst X (nI 1) dX11_isCoordinate_10 (by decide) ?_
      refine V_goto X 15 dX11_isCoordinate_11 (by decide) ?_
      exact V_iret X Y 1 (by omega) rfl rfl rfl dX11_isCoordinate_15
set_option maxHeartbeats 4000000 in
set_option maxRecDepth 100000 in
theorem c_X11_isSide (l : Launch) (G : mvG) (x : Int) (hx : -2147483648 ≤ x ∧ x < 2147483648) : KQ l yX11_isSide cX11_isSide 1 (some .boolean) (0, 0) G [.int (iI x)] [] (fun (zz : Nat) => some (.int (nI zz))) (fun (zz : Nat) => (zz = 1 ∧ 0 ≤ x ∧ x < 4) ∨ (zz = 0 ∧ (x < 0 ∨ 4 ≤ x))) (fun (zz : Nat) => []) := by
  refine KQ.mk (by decide +kernel) (fun _ _ => rfl) [some (.int (iI x))] (Nat.le_of_ble_eq_true rfl) rfl (fun C X Y hC => ?_)
  subst hC
  refine V_iload_n X dX11_isSide_0 rfl ?_
  refine V_if_ltI (i := x) X 13 dX11_isSide_1 (by decide) (iI_toInt (by omega) (by omega)) (fun c_1 => ?_) (fun c_1 => ?_)
  · refine V_iconst X (nI 0) dX11_isSide_13 (by decide) ?_
    exact V_iret X Y 0 (by omega) rfl rfl rfl dX11_isSide_14
  · refine V_iload_n X dX11_isSide_4 rfl ?_
    refine V_iconst X (nI 4) dX11_isSide_5 (by decide) ?_
    refine V_icmp_geI (i := x) (j := 4) X 13 dX11_isSide_6 (by decide) (iI_toInt (by omega) (by omega)) (nI_toInt (by decide)) (fun c_2 => ?_) (fun c_2 => ?_)
    · refine V_iconst X (nI 0) dX11_isSide_13 (by decide) ?_
      exact V_iret X Y 0 (by omega) rfl rfl rfl dX11_isSide_14
    · refine V_iconst X (nI 1) dX11_isSide_9 (by decide) ?_
      refine V_goto X 14 dX11_isSide_10 (by decide) ?_
      exact V_iret X Y 1 (by omega) rfl rfl rfl dX11_isSide_14
set_option maxHeartbeats 4000000 in
set_option maxRecDepth 100000 in
theorem c_X11_isTray (l : Launch) (G : mvG) (x : Int) (y : Int) (hx : -2147483648 ≤ x ∧ x < 2147483648) (hy : -2147483648 ≤ y ∧ y < 2147483648) : KQ l yX11_isTray cX11_isTray 2 (some .boolean) (0, 0) G [.int (iI x), .int (iI y)] [] (fun (zz : Nat) => some (.int (nI zz))) (fun (zz : Nat) => (zz = 1 ∧ 0 ≤ x ∧ x < 5 ∧ 0 ≤ y ∧ y < 5) ∨ (zz = 0 ∧ (x < 0 ∨ 5 ≤ x ∨ y < 0 ∨ 5 ≤ y))) (fun (zz : Nat) => []) := by
  refine KQ.mk (by decide +kernel) (fun _ _ => rfl) [some (.int (iI x)), some (.int (iI y))] (Nat.le_of_ble_eq_true rfl) rfl (fun C X Y hC => ?_)
  subst hC
  refine V_iload_n X dX11_isTray_0 rfl ?_
  refine V_if_ltI (i := x) X 22 dX11_isTray_1 (by decide) (iI_toInt (by omega) (by omega)) (fun c_1 => ?_) (fun c_1 => ?_)
  · refine V_iconst X (nI 0) dX11_isTray_22 (by decide) ?_
    exact V_iret X Y 0 (by omega) rfl rfl rfl dX11_isTray_23
  · refine V_iload_n X dX11_isTray_4 rfl ?_
    refine V_iconst X (nI 5) dX11_isTray_5 (by decide) ?_
    refine V_icmp_geI (i := x) (j := 5) X 22 dX11_isTray_6 (by decide) (iI_toInt (by omega) (by omega)) (nI_toInt (by decide)) (fun c_2 => ?_) (fun c_2 => ?_)
    · refine V_iconst X (nI 0) dX11_isTray_22 (by decide) ?_
      exact V_iret X Y 0 (by omega) rfl rfl rfl dX11_isTray_23
    · refine V_iload_n X dX11_isTray_9 rfl ?_
      refine V_if_ltI (i := y) X 22 dX11_isTray_10 (by decide) (iI_toInt (by omega) (by omega)) (fun c_3 => ?_) (fun c_3 => ?_)
      · refine V_iconst X (nI 0) dX11_isTray_22 (by decide) ?_
        exact V_iret X Y 0 (by omega) rfl rfl rfl dX11_isTray_23
      · refine V_iload_n X dX11_isTray_13 rfl ?_
        refine V_iconst X (nI 5) dX11_isTray_14 (by decide) ?_
        refine V_icmp_geI (i := y) (j := 5) X 22 dX11_isTray_15 (by decide) (iI_toInt (by omega) (by omega)) (nI_toInt (by decide)) (fun c_4 => ?_) (fun c_4 => ?_)
        · refine V_iconst X (nI 0) dX11_isTray_22 (by decide) ?_
          exact V_iret X Y 0 (by omega) rfl rfl rfl dX11_isTray_23
        · refine V_iconst X (nI 1) dX11_isTray_18 (by decide) ?_
          refine V_goto X 23 dX11_isTray_19 (by decide) ?_
          exact V_iret X Y 1 (by omega) rfl rfl rfl dX11_isTray_23
set_option maxHeartbeats 4000000 in
set_option maxRecDepth 100000 in
theorem c_X11_placeAt (l : Launch) (G : mvG) (x : Int) (y : Int) (hx : -2147483648 ≤ x ∧ x < 2147483648) (hy : -2147483648 ≤ y ∧ y < 2147483648) : KQ l yX11_placeAt cX11_placeAt 2 (some .int) (1, 20) G [.int (iI x), .int (iI y)] [] (fun (zz : Int) => some (.int (iI zz))) (fun (zz : Int) => (0 ≤ x ∧ x < 6 ∧ 0 ≤ y ∧ y < 6 ∧ zz = 6 * x + y) ∨ ((x < 0 ∨ 6 ≤ x ∨ y < 0 ∨ 6 ≤ y) ∧ zz = -9)) (fun (zz : Int) => []) := by
  refine KQ.mk (by decide +kernel) (fun _ _ => rfl) [some (.int (iI x)), some (.int (iI y))] (Nat.le_of_ble_eq_true rfl) rfl (fun C X Y hC => ?_)
  subst hC
  refine V_iload_n X dX11_placeAt_0 rfl ?_
  refine V_callS (rest := []) X (c_X11_isCoordinate (Cl C) G x (by first | assumption | omega)) mi_X11_isCoordinate kw_2_86 kw_2_87 dX11_placeAt_1 [] rfl (by decide) rfl rfl (by decide) (Nat.le_of_ble_eq_true rfl) ⟨rfl, rfl⟩ (fun u_ hu_2 => ?_)
  obtain ⟨b_1, rfl⟩ : ∃ z, z = u_ := ⟨_, rfl⟩
  have hu_2 : (b_1 = 1 ∧ 0 ≤ x ∧ x < 6) ∨ (b_1 = 0 ∧ (x < 0 ∨ 6 ≤ x)) := hu_2
  show V C 0 0 [] 4 [some (.int (iI x)), some (.int (iI y))] [.int (nI b_1)]
  refine V_if_eqN X 23 dX11_placeAt_4 (by decide) (by omega) (fun c_3 => ?_) (fun c_3 => ?_)
  · refine V_bipush X (-9) dX11_placeAt_23 (by decide) ?_
    exact V_iret X Y (-9) (by omega) (mv_ri (by rfl)) rfl rfl dX11_placeAt_25
  · refine V_iload_n X dX11_placeAt_7 rfl ?_
    refine V_callS (rest := []) X (c_X11_isCoordinate (Cl C) G y (by first | assumption | omega)) mi_X11_isCoordinate kw_2_86 kw_2_87 dX11_placeAt_8 [] rfl (by decide) rfl rfl (by decide) (Nat.le_of_ble_eq_true rfl) ⟨rfl, rfl⟩ (fun u_ hu_5 => ?_)
    obtain ⟨b_4, rfl⟩ : ∃ z, z = u_ := ⟨_, rfl⟩
    have hu_5 : (b_4 = 1 ∧ 0 ≤ y ∧ y < 6) ∨ (b_4 = 0 ∧ (y < 0 ∨ 6 ≤ y)) := hu_5
    show V C 0 0 [] 11 [some (.int (iI x)), some (.int (iI y))] [.int (nI b_4)]
    refine V_if_eqN X 23 dX11_placeAt_11 (by decide) (by omega) (fun c_6 => ?_) (fun c_6 => ?_)
    · refine V_bipush X (-9) dX11_placeAt_23 (by decide) ?_
      exact V_iret X Y (-9) (by omega) (mv_ri (by rfl)) rfl rfl dX11_placeAt_25
    · refine V_iload_n X dX11_placeAt_14 rfl ?_
      refine V_bipush X (nI 6) dX11_placeAt_15 (by decide) ?_
      refine V_two (show (iI x) = iI (x : Int) from rfl) (show (nI 6) = iI (6 : Int) from rfl) ?_
      refine V_imulS X dX11_placeAt_17 ?_
      refine V_iload_n X dX11_placeAt_18 rfl ?_
      refine V_two (show (iI ((x : Int) * (6 : Int))) = iI ((x : Int) * (6 : Int) : Int) from rfl) (show (iI y) = iI (y : Int) from rfl) ?_
      refine V_iaddS X dX11_placeAt_19 ?_
      refine V_goto X 25 dX11_placeAt_20 (by decide) ?_
      exact V_iret X Y (((x : Int) * (6 : Int) : Int) + (y : Int)) (by omega) (mv_si (by rfl)) rfl rfl dX11_placeAt_25
set_option maxHeartbeats 4000000 in
set_option maxRecDepth 100000 in
theorem c_X11_placeOfCell (l : Launch) (G : mvG) (c : Int) (hc : -2147483648 ≤ c ∧ c < 2147483648) : KQ l yX11_placeOfCell cX11_placeOfCell 1 (some .int) (2, 41) G [.int (iI c)] [] (fun (zz : Int) => some (.int (iI zz))) (fun (zz : Int) => (0 ≤ c ∧ c / 10 < 6 ∧ c % 10 < 6 ∧ zz = 6 * (c / 10) + c % 10) ∨ ((c < 0 ∨ 6 ≤ c / 10 ∨ 6 ≤ c % 10) ∧ zz = -9)) (fun (zz : Int) => []) := by
  refine KQ.mk (by decide +kernel) (fun _ _ => rfl) [some (.int (iI c))] (Nat.le_of_ble_eq_true rfl) rfl (fun C X Y hC => ?_)
  subst hC
  refine V_iload_n X dX11_placeOfCell_0 rfl ?_
  refine V_if_geI (i := c) X 9 dX11_placeOfCell_1 (by decide) (iI_toInt (by omega) (by omega)) (fun c_1 => ?_) (fun c_1 => ?_)
  · refine V_loc (y := (nI c.toNat)) 0 rfl (mv_sn (by omega)) ?_
    refine V_iload_n X dX11_placeOfCell_9 rfl ?_
    refine V_bipush X (nI 10) dX11_placeOfCell_10 (by decide) ?_
    refine V_idivN X dX11_placeOfCell_12 (by omega) (by omega) (by omega) ?_
    refine V_iload_n X dX11_placeOfCell_13 rfl ?_
    refine V_bipush X (nI 10) dX11_placeOfCell_14 (by decide) ?_
    refine V_iremN X dX11_placeOfCell_16 (by omega) (by omega) (by omega) ?_
    refine V_callS (rest := []) X (c_X11_placeAt (Cl C) G ((c.toNat / 10 : Nat) : Int) ((c.toNat % 10 : Nat) : Int) (by first | assumption | omega) (by first | assumption | omega)) mi_X11_placeAt kw_2_144 kw_2_84 dX11_placeOfCell_17 [] rfl (by decide) rfl rfl (by decide) (Nat.le_of_ble_eq_true rfl) ⟨rfl, rfl⟩ (fun u_ hu_3 => ?_)
    obtain ⟨z_2, rfl⟩ : ∃ z, z = u_ := ⟨_, rfl⟩
    have hu_3 : (0 ≤ ((c.toNat / 10 : Nat) : Int) ∧ ((c.toNat / 10 : Nat) : Int) < 6 ∧ 0 ≤ ((c.toNat % 10 : Nat) : Int) ∧ ((c.toNat % 10 : Nat) : Int) < 6 ∧ z_2 = 6 * ((c.toNat / 10 : Nat) : Int) + ((c.toNat % 10 : Nat) : Int)) ∨ ((((c.toNat / 10 : Nat) : Int) < 0 ∨ 6 ≤ ((c.toNat / 10 : Nat) : Int) ∨ ((c.toNat % 10 : Nat) : Int) < 0 ∨ 6 ≤ ((c.toNat % 10 : Nat) : Int)) ∧ z_2 = -9) := hu_3
    show V C 0 0 [] 20 [some (.int (nI c.toNat))] [.int (iI z_2)]
    exact V_iret X Y z_2 (by omega) rfl rfl rfl dX11_placeOfCell_20
  · refine V_bipush X (-9) dX11_placeOfCell_4 (by decide) ?_
    refine V_goto X 20 dX11_placeOfCell_6 (by decide) ?_
    exact V_iret X Y (-9) (by omega) (mv_ri (by rfl)) rfl rfl dX11_placeOfCell_20
set_option maxHeartbeats 4000000 in
set_option maxRecDepth 100000 in
theorem c_X11_cellOfPlace (l : Launch) (G : mvG) (c : Nat) (hc : c < 36) : KQ l yX11_cellOfPlace cX11_cellOfPlace 1 (some .int) (0, 0) G [.int (nI c)] [] (fun (_ : Unit) => some (.int (nI (10 * (c / 6) + c % 6)))) (fun (_ : Unit) => True) (fun (_ : Unit) => []) := by
  refine KQ.mk (by decide +kernel) (fun _ _ => rfl) [some (.int (nI c))] (Nat.le_of_ble_eq_true rfl) rfl (fun C X Y hC => ?_)
  subst hC
  refine V_bipush X (nI 10) dX11_cellOfPlace_0 (by decide) ?_
  refine V_iload_n X dX11_cellOfPlace_2 rfl ?_
  refine V_bipush X (nI 6) dX11_cellOfPlace_3 (by decide) ?_
  refine V_idivN X dX11_cellOfPlace_5 (by omega) (by omega) (by omega) ?_
  refine V_imulN X dX11_cellOfPlace_6 ?_
  refine V_iload_n X dX11_cellOfPlace_7 rfl ?_
  refine V_bipush X (nI 6) dX11_cellOfPlace_8 (by decide) ?_
  refine V_iremN X dX11_cellOfPlace_10 (by omega) (by omega) (by omega) ?_
  refine V_iaddN X dX11_cellOfPlace_11 ?_
  exact V_iret X Y () trivial (mv_rn (by rfl)) rfl rfl dX11_cellOfPlace_12
set_option maxHeartbeats 4000000 in
set_option maxRecDepth 100000 in
theorem c_X11_placeBeside (l : Launch) (G : mvG) (c : Nat) (d : Nat) (hc : c < 36) (hd : d < 4) : KQ l yX11_placeBeside cX11_placeBeside 4 (some .int) (2, 41) G [.int (nI c), .int (nI d)] [] (fun (_ : Unit) => some (.int (iI (nb c d)))) (fun (_ : Unit) => True) (fun (_ : Unit) => []) := by
  refine KQ.mk (by decide +kernel) (fun _ _ => rfl) [some (.int (nI c)), some (.int (nI d)), none, none] (Nat.le_of_ble_eq_true rfl) rfl (fun C X Y hC => ?_)
  subst hC
  refine V_iload_n X dX11_placeBeside_0 rfl ?_
  refine V_bipush X (nI 6) dX11_placeBeside_1 (by decide) ?_
  refine V_idivN X dX11_placeBeside_3 (by omega) (by omega) (by omega) ?_
  refine V_istore_n X dX11_placeBeside_4 (by decide) rfl ?_
  refine V_iload_n X dX11_placeBeside_5 rfl ?_
  refine V_bipush X (nI 6) dX11_placeBeside_6 (by decide) ?_
  refine V_iremN X dX11_placeBeside_8 (by omega) (by omega) (by omega) ?_
  refine V_istore_n X dX11_placeBeside_9 (by decide) rfl ?_
  refine V_iload_n X dX11_placeBeside_10 rfl ?_
  by_cases c_1 : ((d : Nat) : Int) = 0
  · refine V_tableInI (i := ((d : Nat) : Int)) (off := 25) X 36 dX11_placeBeside_11 0 (nI_toInt (by omega)) c_1 (by decide) (by decide) (by decide) ?_
    refine V_iload_n X dX11_placeBeside_36 rfl ?_
    refine V_iconst X (nI 1) dX11_placeBeside_37 (by decide) ?_
    refine V_two (show (nI (c / 6)) = iI ((c / 6 : Nat) : Int) from rfl) (show (nI 1) = iI (1 : Int) from rfl) ?_
    refine V_isubS X dX11_placeBeside_38 ?_
    refine V_iload_n X dX11_placeBeside_39 rfl ?_
    refine V_callS (rest := []) X (c_X11_placeAt (Cl C) G (((c / 6 : Nat) : Int) - (1 : Int)) ((c % 6 : Nat) : Int) (by first | assumption | omega) (by first | assumption | omega)) mi_X11_placeAt kw_2_144 kw_2_84 dX11_placeBeside_40 [] rfl (by decide) rfl rfl (by decide) (Nat.le_of_ble_eq_true rfl) ⟨rfl, rfl⟩ (fun u_ hu_5 => ?_)
    obtain ⟨z_4, rfl⟩ : ∃ z, z = u_ := ⟨_, rfl⟩
    have hu_5 : (0 ≤ (((c / 6 : Nat) : Int) - (1 : Int)) ∧ (((c / 6 : Nat) : Int) - (1 : Int)) < 6 ∧ 0 ≤ ((c % 6 : Nat) : Int) ∧ ((c % 6 : Nat) : Int) < 6 ∧ z_4 = 6 * (((c / 6 : Nat) : Int) - (1 : Int)) + ((c % 6 : Nat) : Int)) ∨ (((((c / 6 : Nat) : Int) - (1 : Int)) < 0 ∨ 6 ≤ (((c / 6 : Nat) : Int) - (1 : Int)) ∨ ((c % 6 : Nat) : Int) < 0 ∨ 6 ≤ ((c % 6 : Nat) : Int)) ∧ z_4 = -9) := hu_5
    show V C 0 0 [] 43 [some (.int (nI c)), some (.int (nI d)), some (.int (nI (c / 6))), some (.int (nI (c % 6)))] [.int (iI z_4)]
    exact V_iret X Y () trivial (mv_si (by simp only [nb]; (repeat' split) <;> omega)) rfl rfl dX11_placeBeside_43
  · by_cases c_2 : ((d : Nat) : Int) = 1
    · refine V_tableInI (i := ((d : Nat) : Int)) (off := 33) X 44 dX11_placeBeside_11 1 (nI_toInt (by omega)) c_2 (by decide) (by decide) (by decide) ?_
      refine V_iload_n X dX11_placeBeside_44 rfl ?_
      refine V_iconst X (nI 1) dX11_placeBeside_45 (by decide) ?_
      refine V_iaddN X dX11_placeBeside_46 ?_
      refine V_iload_n X dX11_placeBeside_47 rfl ?_
      refine V_callS (rest := []) X (c_X11_placeAt (Cl C) G (((c / 6) + 1 : Nat) : Int) ((c % 6 : Nat) : Int) (by first | assumption | omega) (by first | assumption | omega)) mi_X11_placeAt kw_2_144 kw_2_84 dX11_placeBeside_48 [] rfl (by decide) rfl rfl (by decide) (Nat.le_of_ble_eq_true rfl) ⟨rfl, rfl⟩ (fun u_ hu_7 => ?_)
      obtain ⟨z_6, rfl⟩ : ∃ z, z = u_ := ⟨_, rfl⟩
      have hu_7 : (0 ≤ (((c / 6) + 1 : Nat) : Int) ∧ (((c / 6) + 1 : Nat) : Int) < 6 ∧ 0 ≤ ((c % 6 : Nat) : Int) ∧ ((c % 6 : Nat) : Int) < 6 ∧ z_6 = 6 * (((c / 6) + 1 : Nat) : Int) + ((c % 6 : Nat) : Int)) ∨ (((((c / 6) + 1 : Nat) : Int) < 0 ∨ 6 ≤ (((c / 6) + 1 : Nat) : Int) ∨ ((c % 6 : Nat) : Int) < 0 ∨ 6 ≤ ((c % 6 : Nat) : Int)) ∧ z_6 = -9) := hu_7
      show V C 0 0 [] 51 [some (.int (nI c)), some (.int (nI d)), some (.int (nI (c / 6))), some (.int (nI (c % 6)))] [.int (iI z_6)]
      exact V_iret X Y () trivial (mv_si (by simp only [nb]; (repeat' split) <;> omega)) rfl rfl dX11_placeBeside_51
    · by_cases c_3 : ((d : Nat) : Int) = 2
      · refine V_tableInI (i := ((d : Nat) : Int)) (off := 41) X 52 dX11_placeBeside_11 2 (nI_toInt (by omega)) c_3 (by decide) (by decide) (by decide) ?_
        refine V_iload_n X dX11_placeBeside_52 rfl ?_
        refine V_iload_n X dX11_placeBeside_53 rfl ?_
        refine V_iconst X (nI 1) dX11_placeBeside_54 (by decide) ?_
        refine V_two (show (nI (c % 6)) = iI ((c % 6 : Nat) : Int) from rfl) (show (nI 1) = iI (1 : Int) from rfl) ?_
        refine V_isubS X dX11_placeBeside_55 ?_
        refine V_callS (rest := []) X (c_X11_placeAt (Cl C) G ((c / 6 : Nat) : Int) (((c % 6 : Nat) : Int) - (1 : Int)) (by first | assumption | omega) (by first | assumption | omega)) mi_X11_placeAt kw_2_144 kw_2_84 dX11_placeBeside_56 [] rfl (by decide) rfl rfl (by decide) (Nat.le_of_ble_eq_true rfl) ⟨rfl, rfl⟩ (fun u_ hu_9 => ?_)
        obtain ⟨z_8, rfl⟩ : ∃ z, z = u_ := ⟨_, rfl⟩
        have hu_9 : (0 ≤ ((c / 6 : Nat) : Int) ∧ ((c / 6 : Nat) : Int) < 6 ∧ 0 ≤ (((c % 6 : Nat) : Int) - (1 : Int)) ∧ (((c % 6 : Nat) : Int) - (1 : Int)) < 6 ∧ z_8 = 6 * ((c / 6 : Nat) : Int) + (((c % 6 : Nat) : Int) - (1 : Int))) ∨ ((((c / 6 : Nat) : Int) < 0 ∨ 6 ≤ ((c / 6 : Nat) : Int) ∨ (((c % 6 : Nat) : Int) - (1 : Int)) < 0 ∨ 6 ≤ (((c % 6 : Nat) : Int) - (1 : Int))) ∧ z_8 = -9) := hu_9
        show V C 0 0 [] 59 [some (.int (nI c)), some (.int (nI d)), some (.int (nI (c / 6))), some (.int (nI (c % 6)))] [.int (iI z_8)]
        exact V_iret X Y () trivial (mv_si (by simp only [nb]; (repeat' split) <;> omega)) rfl rfl dX11_placeBeside_59
      · refine V_tableOutI (i := ((d : Nat) : Int)) X 60 dX11_placeBeside_11 (nI_toInt (by omega)) (by omega) (by decide) ?_
        refine V_iload_n X dX11_placeBeside_60 rfl ?_
        refine V_iload_n X dX11_placeBeside_61 rfl ?_
        refine V_iconst X (nI 1) dX11_placeBeside_62 (by decide) ?_
        refine V_iaddN X dX11_placeBeside_63 ?_
        refine V_callS (rest := []) X (c_X11_placeAt (Cl C) G ((c / 6 : Nat) : Int) (((c % 6) + 1 : Nat) : Int) (by first | assumption | omega) (by first | assumption | omega)) mi_X11_placeAt kw_2_144 kw_2_84 dX11_placeBeside_64 [] rfl (by decide) rfl rfl (by decide) (Nat.le_of_ble_eq_true rfl) ⟨rfl, rfl⟩ (fun u_ hu_11 => ?_)
        obtain ⟨z_10, rfl⟩ : ∃ z, z = u_ := ⟨_, rfl⟩
        have hu_11 : (0 ≤ ((c / 6 : Nat) : Int) ∧ ((c / 6 : Nat) : Int) < 6 ∧ 0 ≤ (((c % 6) + 1 : Nat) : Int) ∧ (((c % 6) + 1 : Nat) : Int) < 6 ∧ z_10 = 6 * ((c / 6 : Nat) : Int) + (((c % 6) + 1 : Nat) : Int)) ∨ ((((c / 6 : Nat) : Int) < 0 ∨ 6 ≤ ((c / 6 : Nat) : Int) ∨ (((c % 6) + 1 : Nat) : Int) < 0 ∨ 6 ≤ (((c % 6) + 1 : Nat) : Int)) ∧ z_10 = -9) := hu_11
        show V C 0 0 [] 67 [some (.int (nI c)), some (.int (nI d)), some (.int (nI (c / 6))), some (.int (nI (c % 6)))] [.int (iI z_10)]
        exact V_iret X Y () trivial (mv_si (by simp only [nb]; (repeat' split) <;> omega)) rfl rfl dX11_placeBeside_67
set_option maxHeartbeats 4000000 in
set_option maxRecDepth 100000 in
theorem c_X11_areApart (l : Launch) (G : mvG) (t : Nat) (o : Nat) (ht : t < 25) (ho : o < 25) : KQ l yX11_areApart cX11_areApart 2 (some .boolean) (1, 13) G [.int (nI t), .int (nI o)] [] (fun (zz : Nat) => some (.int (nI zz))) (fun (zz : Nat) => (zz = 1 ∧ (t / 5 + 1 < o / 5 ∨ o / 5 + 1 < t / 5 ∨ t % 5 + 1 < o % 5 ∨ o % 5 + 1 < t % 5)) ∨ (zz = 0 ∧ (t / 5 ≤ o / 5 + 1 ∧ o / 5 ≤ t / 5 + 1 ∧ t % 5 ≤ o % 5 + 1 ∧ o % 5 ≤ t % 5 + 1))) (fun (zz : Nat) => []) := by
  refine KQ.mk (by decide +kernel) (fun _ _ => rfl) [some (.int (nI t)), some (.int (nI o))] (Nat.le_of_ble_eq_true rfl) rfl (fun C X Y hC => ?_)
  subst hC
  refine V_iload_n X dX11_areApart_0 rfl ?_
  refine V_iconst X (nI 5) dX11_areApart_1 (by decide) ?_
  refine V_idivN X dX11_areApart_2 (by omega) (by omega) (by omega) ?_
  refine V_iload_n X dX11_areApart_3 rfl ?_
  refine V_iconst X (nI 5) dX11_areApart_4 (by decide) ?_
  refine V_idivN X dX11_areApart_5 (by omega) (by omega) (by omega) ?_
  refine V_two (show (nI (t / 5)) = iI ((t / 5 : Nat) : Int) from rfl) (show (nI (o / 5)) = iI ((o / 5 : Nat) : Int) from rfl) ?_
  refine V_isubS X dX11_areApart_6 ?_
  refine V_mabsS X kw_3_79 dX11_areApart_7 (by decide) (Nat.le_of_ble_eq_true rfl) ⟨rfl, rfl⟩ (by omega) (by omega) ?_
  refine V_iconst X (nI 1) dX11_areApart_10 (by decide) ?_
  refine V_icmp_gtN X 28 dX11_areApart_11 (by decide) (by omega) (by decide) (fun c_1 => ?_) (fun c_1 => ?_)
  · refine V_iconst X (nI 1) dX11_areApart_28 (by decide) ?_
    refine V_goto X 33 dX11_areApart_29 (by decide) ?_
    exact V_iret X Y 1 (by omega) rfl rfl rfl dX11_areApart_33
  · refine V_iload_n X dX11_areApart_14 rfl ?_
    refine V_iconst X (nI 5) dX11_areApart_15 (by decide) ?_
    refine V_iremN X dX11_areApart_16 (by omega) (by omega) (by omega) ?_
    refine V_iload_n X dX11_areApart_17 rfl ?_
    refine V_iconst X (nI 5) dX11_areApart_18 (by decide) ?_
    refine V_iremN X dX11_areApart_19 (by omega) (by omega) (by omega) ?_
    refine V_two (show (nI (t % 5)) = iI ((t % 5 : Nat) : Int) from rfl) (show (nI (o % 5)) = iI ((o % 5 : Nat) : Int) from rfl) ?_
    refine V_isubS X dX11_areApart_20 ?_
    refine V_mabsS X kw_3_79 dX11_areApart_21 (by decide) (Nat.le_of_ble_eq_true rfl) ⟨rfl, rfl⟩ (by omega) (by omega) ?_
    refine V_iconst X (nI 1) dX11_areApart_24 (by decide) ?_
    refine V_icmp_leN X 32 dX11_areApart_25 (by decide) (by omega) (by decide) (fun c_2 => ?_) (fun c_2 => ?_)
    · refine V_iconst X (nI 0) dX11_areApart_32 (by decide) ?_
      exact V_iret X Y 0 (by omega) rfl rfl rfl dX11_areApart_33
    · refine V_iconst X (nI 1) dX11_areApart_28 (by decide) ?_
      refine V_goto X 33 dX11_areApart_29 (by decide) ?_
      exact V_iret X Y 1 (by omega) rfl rfl rfl dX11_areApart_33
set_option maxHeartbeats 4000000 in
set_option maxRecDepth 100000 in
theorem c_X11_powerOf (l : Launch) (G : mvG) (b : Nat) (k : Nat) (hb : b ≤ 10) (hk : k ≤ 8) : KQ l yX11_powerOf cX11_powerOf 5 (some .long) (0, 0) G [.int (nI b), .int (nI k)] [] (fun (_ : Unit) => some (.long (lN (b ^ k)))) (fun (_ : Unit) => True) (fun (_ : Unit) => []) := by
  refine KQ.mk (by decide +kernel) (fun _ _ => rfl) [some (.int (nI b)), some (.int (nI k)), none, none, none] (Nat.le_of_ble_eq_true rfl) rfl (fun C X Y hC => ?_)
  subst hC
  refine V_lconst X (lN 1) dX11_powerOf_0 (by decide) ?_
  refine V_lstore_n X dX11_powerOf_1 (by decide) rfl ?_
  refine V_iconst X (nI 0) dX11_powerOf_2 (by decide) ?_
  refine V_istore X dX11_powerOf_3 (by decide) rfl ?_
  have L_5 : ∀ (fz_5 : Nat) (x : Nat) (q : Nat) (hq : q ≤ k) (hx : x = b ^ q), (k - q) < fz_5 → V C 0 0 [] 5 [some (.int (nI b)), some (.int (nI k)), some (.long (lN x)), none, some (.int (nI q))] [] := by
    intro fz_5
    induction fz_5 with
    | zero => intro x q hq hx hf_5; exact absurd hf_5 (Nat.not_lt_zero _)
    | succ fz_5 ih_5 =>
      intro x q hq hx hf_5
      refine V_iload X dX11_powerOf_5 rfl ?_
      refine V_iload_n X dX11_powerOf_7 rfl ?_
      refine V_icmp_geN X 22 dX11_powerOf_8 (by decide) (by omega) (by omega) (fun c_1 => ?_) (fun c_1 => ?_)
      · refine V_lload_n X dX11_powerOf_22 rfl ?_
        exact V_lret X Y () trivial (mv_rL (by rw [hx, show q = k by omega])) rfl dX11_powerOf_23
      · refine V_lload_n X dX11_powerOf_11 rfl ?_
        refine V_iload_n X dX11_powerOf_12 rfl ?_
        refine V_i2l X (lN b) dX11_powerOf_13 (nI_l (by omega)) ?_
        refine V_lmulN X dX11_powerOf_14 ?_
        refine V_lstore_n X dX11_powerOf_15 (by decide) rfl ?_
        refine V_iincN X (c := 1) dX11_powerOf_16 rfl (by decide) rfl ?_
        refine V_goto X 5 dX11_powerOf_19 (by decide) ?_
        refine V_weak (lv' := [some (.int (nI b)), some (.int (nI k)), some (.long (lN (x * b))), none, some (.int (nI (q + 1)))]) (And.intro rfl (And.intro rfl (And.intro rfl (And.intro rfl trivial)))) ?_
        exact ih_5 (x * b) (q + 1) (by omega) (by rw [hx, Nat.pow_succ]) (by omega)
  refine V_weak (lv' := [some (.int (nI b)), some (.int (nI k)), some (.long (lN 1)), none, some (.int (nI 0))]) (And.intro rfl (And.intro rfl (And.intro rfl (And.intro rfl trivial)))) ?_
  exact L_5 _ 1 0 (by omega) rfl (Nat.lt_succ_self _)
set_option maxHeartbeats 4000000 in
set_option maxRecDepth 100000 in
theorem c_X11_chancesToStay (l : Launch) (G : mvG) (g : Nat) (x : Nat) (k : Nat) (hg : g ≤ 9) (hx : x ≤ 10) (hk : k ≤ 8) : KQ l yX11_chancesToStay cX11_chancesToStay 8 (some .long) (1, 24) G [.int (nI g), .int (nI x), .int (nI k)] [] (fun (_ : Unit) => some (.long (lN (chStay g x k)))) (fun (_ : Unit) => True) (fun (_ : Unit) => []) := by
  refine KQ.mk (by decide +kernel) (fun _ _ => rfl) [some (.int (nI g)), some (.int (nI x)), some (.int (nI k)), none, none, none, none, none] (Nat.le_of_ble_eq_true rfl) rfl (fun C X Y hC => ?_)
  subst hC
  refine V_lconst X (lN 0) dX11_chancesToStay_0 (by decide) ?_
  refine V_lstore_n X dX11_chancesToStay_1 (by decide) rfl ?_
  refine V_lconst X (lN 1) dX11_chancesToStay_2 (by decide) ?_
  refine V_lstore X dX11_chancesToStay_3 (by decide) rfl ?_
  refine V_iconst X (nI 0) dX11_chancesToStay_5 (by decide) ?_
  refine V_istore X dX11_chancesToStay_6 (by decide) rfl ?_
  have L_8 : ∀ (fz_8 : Nat) (c : Nat) (y : Nat) (q : Nat) (hq : q ≤ k + 1 ∧ q ≤ g) (hc : c = chS x k q) (hy : y = wyS k q), (k + 1 - q) < fz_8 → V C 0 0 [] 8 [some (.int (nI g)), some (.int (nI x)), some (.int (nI k)), some (.long (lN c)), none, some (.long (lN y)), none, some (.int (nI q))] [] := by
    intro fz_8
    induction fz_8 with
    | zero => intro c y q hq hc hy hf_8; exact absurd hf_8 (Nat.not_lt_zero _)
    | succ fz_8 ih_8 =>
      intro c y q hq hc hy hf_8
      refine V_iload X dX11_chancesToStay_8 rfl ?_
      refine V_iload_n X dX11_chancesToStay_10 rfl ?_
      refine V_icmp_gtN X 66 dX11_chancesToStay_11 (by decide) (by omega) (by omega) (fun c_1 => ?_) (fun c_1 => ?_)
      · refine V_lload_n X dX11_chancesToStay_66 rfl ?_
        exact V_lret X Y () trivial (mv_rL (by rw [hc, show q = min (k + 1) g by omega]; rfl)) rfl dX11_chancesToStay_67
      · refine V_iload X dX11_chancesToStay_14 rfl ?_
        refine V_iload_n X dX11_chancesToStay_16 rfl ?_
        refine V_icmp_geN X 66 dX11_chancesToStay_17 (by decide) (by omega) (by omega) (fun c_2 => ?_) (fun c_2 => ?_)
        · refine V_lload_n X dX11_chancesToStay_66 rfl ?_
          exact V_lret X Y () trivial (mv_rL (by rw [hc, show q = min (k + 1) g by omega]; rfl)) rfl dX11_chancesToStay_67
        · have hy7 : y ≤ 70 := by rw [hy]; exact wyS_le k hk q (by omega)
          have hy8 : y * (k - q) ≤ 70 * 8 := Nat.mul_le_mul hy7 (by omega)
          refine V_lload_n X dX11_chancesToStay_20 rfl ?_
          refine V_lload X dX11_chancesToStay_21 rfl ?_
          refine V_iload_n X dX11_chancesToStay_23 rfl ?_
          refine V_iload X dX11_chancesToStay_24 rfl ?_
          refine V_callS (rest := [.long (lN y), .long (lN c)]) X (c_X11_powerOf (Cl C) G x q (by first | assumption | omega) (by first | assumption | omega)) mi_X11_powerOf kw_3_106 kw_3_107 dX11_chancesToStay_26 [] rfl (by decide) rfl rfl (by decide) (Nat.le_of_ble_eq_true rfl) ⟨rfl, rfl⟩ (fun _ _ => ?_)
          show V C 0 0 [] 29 [some (.int (nI g)), some (.int (nI x)), some (.int (nI k)), some (.long (lN c)), none, some (.long (lN y)), none, some (.int (nI q))] [.long (lN (x ^ q)), .long (lN y), .long (lN c)]
          refine V_lmulN X dX11_chancesToStay_29 ?_
          refine V_bipush X (nI 10) dX11_chancesToStay_30 (by decide) ?_
          refine V_iload_n X dX11_chancesToStay_32 rfl ?_
          refine V_isubN X dX11_chancesToStay_33 (by omega) ?_
          refine V_iload_n X dX11_chancesToStay_34 rfl ?_
          refine V_iload X dX11_chancesToStay_35 rfl ?_
          refine V_isubN X dX11_chancesToStay_37 (by omega) ?_
          refine V_callS (rest := [.long (lN (y * (x ^ q))), .long (lN c)]) X (c_X11_powerOf (Cl C) G (10 - x) (k - q) (by first | assumption | omega) (by first | assumption | omega)) mi_X11_powerOf kw_3_106 kw_3_107 dX11_chancesToStay_38 [] rfl (by decide) rfl rfl (by decide) (Nat.le_of_ble_eq_true rfl) ⟨rfl, rfl⟩ (fun _ _ => ?_)
          show V C 0 0 [] 41 [some (.int (nI g)), some (.int (nI x)), some (.int (nI k)), some (.long (lN c)), none, some (.long (lN y)), none, some (.int (nI q))] [.long (lN ((10 - x) ^ (k - q))), .long (lN (y * (x ^ q))), .long (lN c)]
          refine V_lmulN X dX11_chancesToStay_41 ?_
          refine V_laddN X dX11_chancesToStay_42 ?_
          refine V_lstore_n X dX11_chancesToStay_43 (by decide) rfl ?_
          refine V_lload X dX11_chancesToStay_44 rfl ?_
          refine V_iload_n X dX11_chancesToStay_46 rfl ?_
          refine V_iload X dX11_chancesToStay_47 rfl ?_
          refine V_isubN X dX11_chancesToStay_49 (by omega) ?_
          refine V_i2l X (lN (k - q)) dX11_chancesToStay_50 (nI_l (by omega)) ?_
          refine V_lmulN X dX11_chancesToStay_51 ?_
          refine V_iload X dX11_chancesToStay_52 rfl ?_
          refine V_iconst X (nI 1) dX11_chancesToStay_54 (by decide) ?_
          refine V_iaddN X dX11_chancesToStay_55 ?_
          refine V_i2l X (lN (q + 1)) dX11_chancesToStay_56 (nI_l (by omega)) ?_
          refine V_ldivN X dX11_chancesToStay_57 (by omega) (by omega) (by omega) ?_
          refine V_lstore X dX11_chancesToStay_58 (by decide) rfl ?_
          refine V_iincN X (c := 1) dX11_chancesToStay_60 rfl (by decide) rfl ?_
          refine V_goto X 8 dX11_chancesToStay_63 (by decide) ?_
          refine V_weak (lv' := [some (.int (nI g)), some (.int (nI x)), some (.int (nI k)), some (.long (lN (c + ((y * (x ^ q)) * ((10 - x) ^ (k - q)))))), none, some (.long (lN ((y * (k - q)) / (q + 1)))), none, some (.int (nI (q + 1)))]) (And.intro rfl (And.intro rfl (And.intro rfl (And.intro rfl (And.intro rfl (And.intro rfl trivial)))))) ?_
          exact ih_8 (c + ((y * (x ^ q)) * ((10 - x) ^ (k - q)))) ((y * (k - q)) / (q + 1)) (q + 1) (by omega) (by rw [hc, hy]; rfl) (by rw [hy]; rfl) (by omega)
  refine V_weak (lv' := [some (.int (nI g)), some (.int (nI x)), some (.int (nI k)), some (.long (lN 0)), none, some (.long (lN 1)), none, some (.int (nI 0))]) (And.intro rfl (And.intro rfl (And.intro rfl (And.intro rfl (And.intro rfl (And.intro rfl trivial)))))) ?_
  exact L_8 _ 0 1 0 (by omega) rfl rfl (Nat.lt_succ_self _)
set_option maxHeartbeats 4000000 in
set_option maxRecDepth 100000 in
theorem c_X11_commonPart (l : Launch) (G : mvG) (p : Nat) (q : Nat) (hp : p < 2 ^ 31) (hq : q < 2 ^ 31) : KQ l yX11_commonPart cX11_commonPart 11 (some .long) (0, 0) G [.long (lN p), .long (lN q)] [] (fun (_ : Unit) => some (.long (lN (eucl 100 q p)))) (fun (_ : Unit) => True) (fun (_ : Unit) => []) := by
  refine KQ.mk (by decide +kernel) (fun _ _ => rfl) [some (.long (lN p)), none, some (.long (lN q)), none, none, none, none, none, none, none, none] (Nat.le_of_ble_eq_true rfl) rfl (fun C X Y hC => ?_)
  subst hC
  refine V_lload_n X dX11_commonPart_0 rfl ?_
  refine V_lstore X dX11_commonPart_1 (by decide) rfl ?_
  refine V_lload_n X dX11_commonPart_3 rfl ?_
  refine V_lstore X dX11_commonPart_4 (by decide) rfl ?_
  refine V_iconst X (nI 0) dX11_commonPart_6 (by decide) ?_
  refine V_istore X dX11_commonPart_7 (by decide) rfl ?_
  have L_9 : ∀ (fz_9 : Nat) (x : Nat) (y : Nat) (k : Nat) (hk : k ≤ 100) (hx : x < 2 ^ 31) (hy : y < 2 ^ 31) (he : eucl (100 - k) x y = eucl 100 q p), (100 - k) < fz_9 → V C 0 0 [] 9 [some (.long (lN p)), none, some (.long (lN q)), none, some (.long (lN x)), none, some (.long (lN y)), none, some (.int (nI k)), none, none] [] := by
    intro fz_9
    induction fz_9 with
    | zero => intro x y k hk hx hy he hf_9; exact absurd hf_9 (Nat.not_lt_zero _)
    | succ fz_9 ih_9 =>
      intro x y k hk hx hy he hf_9
      refine V_iload X dX11_commonPart_9 rfl ?_
      refine V_bipush X (nI 100) dX11_commonPart_11 (by decide) ?_
      refine V_icmp_geN X 44 dX11_commonPart_13 (by decide) (by omega) (by decide) (fun c_1 => ?_) (fun c_1 => ?_)
      · refine V_lload X dX11_commonPart_44 rfl ?_
        exact V_lret X Y () trivial (mv_rL (by rw [← he, show 100 - k = 0 by omega]; rfl)) rfl dX11_commonPart_46
      · refine V_lload X dX11_commonPart_16 rfl ?_
        refine V_lconst X (lN 0) dX11_commonPart_18 (by decide) ?_
        refine V_lcmp_eqN X 44 dX11_commonPart_19 dX11_commonPart_20 (by decide) (by omega) (by omega) (fun c_2 => ?_) (fun c_2 => ?_)
        · refine V_lload X dX11_commonPart_44 rfl ?_
          exact V_lret X Y () trivial (mv_rL (by rw [← he, c_2, eucl_0])) rfl dX11_commonPart_46
        · refine V_lload X dX11_commonPart_23 rfl ?_
          refine V_lload X dX11_commonPart_25 rfl ?_
          refine V_lremN X dX11_commonPart_27 (by omega) (by omega) (by omega) ?_
          refine V_lstore X dX11_commonPart_28 (by decide) rfl ?_
          refine V_lload X dX11_commonPart_30 rfl ?_
          refine V_lstore X dX11_commonPart_32 (by decide) rfl ?_
          refine V_lload X dX11_commonPart_34 rfl ?_
          refine V_lstore X dX11_commonPart_36 (by decide) rfl ?_
          refine V_iincN X (c := 1) dX11_commonPart_38 rfl (by decide) rfl ?_
          refine V_goto X 9 dX11_commonPart_41 (by decide) ?_
          refine V_weak (lv' := [some (.long (lN p)), none, some (.long (lN q)), none, some (.long (lN y)), none, some (.long (lN (x % y))), none, some (.int (nI (k + 1))), none, none]) (And.intro rfl (And.intro rfl (And.intro rfl (And.intro rfl (And.intro rfl trivial))))) ?_
          exact ih_9 y (x % y) (k + 1) (by omega) (by omega) (Nat.lt_trans (Nat.mod_lt _ (by omega)) hy) (by rw [← he, show 100 - k = (100 - (k + 1)) + 1 by omega]; simp only [eucl, if_neg c_2]) (by omega)
  refine V_weak (lv' := [some (.long (lN p)), none, some (.long (lN q)), none, some (.long (lN q)), none, some (.long (lN p)), none, some (.int (nI 0)), none, none]) (And.intro rfl (And.intro rfl (And.intro rfl (And.intro rfl (And.intro rfl trivial))))) ?_
  exact L_9 _ q p 0 (by omega) (by omega) (by omega) rfl (Nat.lt_succ_self _)
set_option maxHeartbeats 4000000 in
set_option maxRecDepth 100000 in
theorem c_X3_reset (l : Launch) (G : mvG) (a : Nat → Nat) (wh : Nat → Nat) (de : Nat → Nat) (t : Nat → Int32) (sv : Nat) (vt : Nat) (ps : Nat) : KQ l yX3_reset cX3_reset 1 none (1, 23) G [.ref (a 0)] [gMo G a (nF wh) (nF de) t (nI sv) (nI vt) (nI ps)] (fun (_ : Unit) => none) (fun (_ : Unit) => True) (fun (_ : Unit) => [gMo G a (nF (fun _ => 0)) (nF (fun _ => 0)) (fun _ => (-9)) (nI 0) (nI 0) (nI 0)]) := by
  refine KQ.mk (by decide +kernel) (fun _ _ => rfl) [some (.ref (a 0))] (Nat.le_of_ble_eq_true rfl) rfl (fun C X Y hC => ?_)
  subst hC
  refine V_aload_n X dX3_reset_0 rfl ?_
  refine V_get X fl_X3_9 0 0 rfl rfl rfl dX3_reset_1 ?_
  refine V_iconst X (nI 0) dX3_reset_4 (by decide) ?_
  refine V_fillI X kw_1_66 kw_1_67 dX3_reset_5 0 1 rfl rfl (by decide) (by decide) (Nat.le_of_ble_eq_true rfl) (by decide) ?_
  show V C 0 0 [gMo G a (nF (fun _ => 0)) (nF de) t (nI sv) (nI vt) (nI ps)] 8 [some (.ref (a 0))] []
  refine V_aload_n X dX3_reset_8 rfl ?_
  refine V_get X fl_X3_15 0 0 rfl rfl rfl dX3_reset_9 ?_
  refine V_iconst X (nI 0) dX3_reset_12 (by decide) ?_
  refine V_fillI X kw_1_66 kw_1_67 dX3_reset_13 0 2 rfl rfl (by decide) (by decide) (Nat.le_of_ble_eq_true rfl) (by decide) ?_
  show V C 0 0 [gMo G a (nF (fun _ => 0)) (nF (fun _ => 0)) t (nI sv) (nI vt) (nI ps)] 16 [some (.ref (a 0))] []
  refine V_aload_n X dX3_reset_16 rfl ?_
  refine V_get X fl_X3_18 0 0 rfl rfl rfl dX3_reset_17 ?_
  refine V_bipush X (-9) dX3_reset_20 (by decide) ?_
  refine V_fillI X kw_1_66 kw_1_67 dX3_reset_22 0 3 rfl rfl (by decide) (by decide) (Nat.le_of_ble_eq_true rfl) (by decide) ?_
  show V C 0 0 [gMo G a (nF (fun _ => 0)) (nF (fun _ => 0)) (fun _ => (-9)) (nI sv) (nI vt) (nI ps)] 25 [some (.ref (a 0))] []
  refine V_aload_n X dX3_reset_25 rfl ?_
  refine V_iconst X (nI 0) dX3_reset_26 (by decide) ?_
  refine V_put X fl_X3_30 0 0 rfl rfl rfl rfl (Nat.le_of_ble_eq_true rfl) dX3_reset_27 ?_
  show V C 0 0 [gMo G a (nF (fun _ => 0)) (nF (fun _ => 0)) (fun _ => (-9)) (nI 0) (nI vt) (nI ps)] 30 [some (.ref (a 0))] []
  refine V_aload_n X dX3_reset_30 rfl ?_
  refine V_iconst X (nI 0) dX3_reset_31 (by decide) ?_
  refine V_put X fl_X3_34 0 0 rfl rfl rfl rfl (Nat.le_of_ble_eq_true rfl) dX3_reset_32 ?_
  show V C 0 0 [gMo G a (nF (fun _ => 0)) (nF (fun _ => 0)) (fun _ => (-9)) (nI 0) (nI 0) (nI ps)] 35 [some (.ref (a 0))] []
  refine V_aload_n X dX3_reset_35 rfl ?_
  refine V_iconst X (nI 0) dX3_reset_36 (by decide) ?_
  refine V_put X fl_X3_37 0 0 rfl rfl rfl rfl (Nat.le_of_ble_eq_true rfl) dX3_reset_37 ?_
  show V C 0 0 [gMo G a (nF (fun _ => 0)) (nF (fun _ => 0)) (fun _ => (-9)) (nI 0) (nI 0) (nI 0)] 40 [some (.ref (a 0))] []
  exact V_vret X Y () trivial rfl rfl dX3_reset_40
set_option maxHeartbeats 4000000 in
set_option maxRecDepth 100000 in
theorem c_X3_copyFrom (l : Launch) (G : mvG) (a : Nat → Nat) (wh : Nat → Nat) (de : Nat → Nat) (t : Nat → Int32) (sv : Nat) (vt : Nat) (ps : Nat) (b : Nat → Nat) (wh2 : Nat → Nat) (de2 : Nat → Nat) (t2 : Nat → Int32) (sv2 : Nat) (vt2 : Nat) (ps2 : Nat) : KQ l yX3_copyFrom cX3_copyFrom 2 none (1, 18) G [.ref (a 0), .ref (b 0)] [gMo G a (nF wh) (nF de) t (nI sv) (nI vt) (nI ps), gMo G b (nF wh2) (nF de2) t2 (nI sv2) (nI vt2) (nI ps2)] (fun (_ : Unit) => none) (fun (_ : Unit) => True) (fun (_ : Unit) => [gMo G a (nF wh2) (nF de2) t2 (nI sv2) (nI vt2) (nI ps2), gMo G b (nF wh2) (nF de2) t2 (nI sv2) (nI vt2) (nI ps2)]) := by
  refine KQ.mk (by decide +kernel) (fun _ _ => rfl) [some (.ref (a 0)), some (.ref (b 0))] (Nat.le_of_ble_eq_true rfl) rfl (fun C X Y hC => ?_)
  subst hC
  refine V_aload_n X dX3_copyFrom_0 rfl ?_
  refine V_get X fl_X3_9 1 0 rfl rfl rfl dX3_copyFrom_1 ?_
  refine V_iconst X (nI 0) dX3_copyFrom_4 (by decide) ?_
  refine V_aload_n X dX3_copyFrom_5 rfl ?_
  refine V_get X fl_X3_9 0 0 rfl rfl rfl dX3_copyFrom_6 ?_
  refine V_iconst X (nI 0) dX3_copyFrom_9 (by decide) ?_
  refine V_iconst X (nI 5) dX3_copyFrom_10 (by decide) ?_
  refine V_copy X kw_2_128 dX3_copyFrom_11 1 1 0 1 rfl rfl rfl rfl (by decide) (by decide) (Nat.le_of_ble_eq_true rfl) ?_
  show V C 0 0 [gMo G a (nF wh2) (nF de) t (nI sv) (nI vt) (nI ps), gMo G b (nF wh2) (nF de2) t2 (nI sv2) (nI vt2) (nI ps2)] 14 [some (.ref (a 0)), some (.ref (b 0))] []
  refine V_aload_n X dX3_copyFrom_14 rfl ?_
  refine V_get X fl_X3_15 1 0 rfl rfl rfl dX3_copyFrom_15 ?_
  refine V_iconst X (nI 0) dX3_copyFrom_18 (by decide) ?_
  refine V_aload_n X dX3_copyFrom_19 rfl ?_
  refine V_get X fl_X3_15 0 0 rfl rfl rfl dX3_copyFrom_20 ?_
  refine V_iconst X (nI 0) dX3_copyFrom_23 (by decide) ?_
  refine V_bipush X (nI 36) dX3_copyFrom_24 (by decide) ?_
  refine V_copy X kw_2_128 dX3_copyFrom_26 1 2 0 2 rfl rfl rfl rfl (by decide) (by decide) (Nat.le_of_ble_eq_true rfl) ?_
  show V C 0 0 [gMo G a (nF wh2) (nF de2) t (nI sv) (nI vt) (nI ps), gMo G b (nF wh2) (nF de2) t2 (nI sv2) (nI vt2) (nI ps2)] 29 [some (.ref (a 0)), some (.ref (b 0))] []
  refine V_aload_n X dX3_copyFrom_29 rfl ?_
  refine V_get X fl_X3_18 1 0 rfl rfl rfl dX3_copyFrom_30 ?_
  refine V_iconst X (nI 0) dX3_copyFrom_33 (by decide) ?_
  refine V_aload_n X dX3_copyFrom_34 rfl ?_
  refine V_get X fl_X3_18 0 0 rfl rfl rfl dX3_copyFrom_35 ?_
  refine V_iconst X (nI 0) dX3_copyFrom_38 (by decide) ?_
  refine V_bipush X (nI 36) dX3_copyFrom_39 (by decide) ?_
  refine V_copy X kw_2_128 dX3_copyFrom_41 1 3 0 3 rfl rfl rfl rfl (by decide) (by decide) (Nat.le_of_ble_eq_true rfl) ?_
  show V C 0 0 [gMo G a (nF wh2) (nF de2) t2 (nI sv) (nI vt) (nI ps), gMo G b (nF wh2) (nF de2) t2 (nI sv2) (nI vt2) (nI ps2)] 44 [some (.ref (a 0)), some (.ref (b 0))] []
  refine V_aload_n X dX3_copyFrom_44 rfl ?_
  refine V_aload_n X dX3_copyFrom_45 rfl ?_
  refine V_get X fl_X3_30 1 0 rfl rfl rfl dX3_copyFrom_46 ?_
  refine V_put X fl_X3_30 0 0 rfl rfl rfl rfl (Nat.le_of_ble_eq_true rfl) dX3_copyFrom_49 ?_
  show V C 0 0 [gMo G a (nF wh2) (nF de2) t2 (nI sv2) (nI vt) (nI ps), gMo G b (nF wh2) (nF de2) t2 (nI sv2) (nI vt2) (nI ps2)] 52 [some (.ref (a 0)), some (.ref (b 0))] []
  refine V_aload_n X dX3_copyFrom_52 rfl ?_
  refine V_aload_n X dX3_copyFrom_53 rfl ?_
  refine V_get X fl_X3_34 1 0 rfl rfl rfl dX3_copyFrom_54 ?_
  refine V_put X fl_X3_34 0 0 rfl rfl rfl rfl (Nat.le_of_ble_eq_true rfl) dX3_copyFrom_57 ?_
  show V C 0 0 [gMo G a (nF wh2) (nF de2) t2 (nI sv2) (nI vt2) (nI ps), gMo G b (nF wh2) (nF de2) t2 (nI sv2) (nI vt2) (nI ps2)] 60 [some (.ref (a 0)), some (.ref (b 0))] []
  refine V_aload_n X dX3_copyFrom_60 rfl ?_
  refine V_aload_n X dX3_copyFrom_61 rfl ?_
  refine V_get X fl_X3_37 1 0 rfl rfl rfl dX3_copyFrom_62 ?_
  refine V_put X fl_X3_37 0 0 rfl rfl rfl rfl (Nat.le_of_ble_eq_true rfl) dX3_copyFrom_65 ?_
  show V C 0 0 [gMo G a (nF wh2) (nF de2) t2 (nI sv2) (nI vt2) (nI ps2), gMo G b (nF wh2) (nF de2) t2 (nI sv2) (nI vt2) (nI ps2)] 68 [some (.ref (a 0)), some (.ref (b 0))] []
  exact V_vret X Y () trivial rfl rfl dX3_copyFrom_68
set_option maxHeartbeats 4000000 in
set_option maxRecDepth 100000 in
theorem c_X3_placeOf (l : Launch) (G : mvG) (a : Nat → Nat) (wh : Nat → Nat) (de : Nat → Nat) (t : Nat → Int32) (sv : Nat) (vt : Nat) (ps : Nat) (p : Nat) (hp : p < 5) : KQ l yX3_placeOf cX3_placeOf 2 (some .int) (0, 0) G [.ref (a 0), .int (nI p)] [gMo G a (nF wh) (nF de) t (nI sv) (nI vt) (nI ps)] (fun (_ : Unit) => some (.int (nI (wh p)))) (fun (_ : Unit) => True) (fun (_ : Unit) => [gMo G a (nF wh) (nF de) t (nI sv) (nI vt) (nI ps)]) := by
  refine KQ.mk (by decide +kernel) (fun _ _ => rfl) [some (.ref (a 0)), some (.int (nI p))] (Nat.le_of_ble_eq_true rfl) rfl (fun C X Y hC => ?_)
  subst hC
  refine V_iload_n X dX3_placeOf_0 rfl ?_
  refine V_if_ltN X dX3_placeOf_1 22 (by decide) (by omega) ?_
  refine V_iload_n X dX3_placeOf_4 rfl ?_
  refine V_aload_n X dX3_placeOf_5 rfl ?_
  refine V_get X fl_X3_9 0 0 rfl rfl rfl dX3_placeOf_6 ?_
  refine V_alen X (t0 := 0) 0 1 (nI 5) rfl rfl rfl rfl dX3_placeOf_9 ?_
  refine V_icmp_geN X 22 dX3_placeOf_10 (by decide) (by omega) (by decide) (fun c_2 => ?_) (fun c_2 => ?_)
  · exfalso; omega
  · refine V_aload_n X dX3_placeOf_13 rfl ?_
    refine V_get X fl_X3_9 0 0 rfl rfl rfl dX3_placeOf_14 ?_
    refine V_iload_n X dX3_placeOf_17 rfl ?_
    refine V_ialdN X 0 1 rfl rfl (by omega) (by decide) dX3_placeOf_18 ?_
    refine V_goto X 23 dX3_placeOf_19 (by decide) ?_
    exact V_iret X Y () trivial rfl rfl rfl dX3_placeOf_23
set_option maxHeartbeats 4000000 in
set_option maxRecDepth 100000 in
theorem c_X3_put (l : Launch) (G : mvG) (a : Nat → Nat) (wh : Nat → Nat) (de : Nat → Nat) (t : Nat → Int32) (sv : Nat) (vt : Nat) (ps : Nat) (p : Nat) (c : Nat) (hp : p < 5) : KQ l yX3_put cX3_put 3 none (0, 0) G [.ref (a 0), .int (nI p), .int (nI c)] [gMo G a (nF wh) (nF de) t (nI sv) (nI vt) (nI ps)] (fun (_ : Unit) => none) (fun (_ : Unit) => True) (fun (_ : Unit) => [gMo G a (nF (va_up wh p c)) (nF de) t (nI sv) (nI vt) (nI ps)]) := by
  refine KQ.mk (by decide +kernel) (fun _ _ => rfl) [some (.ref (a 0)), some (.int (nI p)), some (.int (nI c))] (Nat.le_of_ble_eq_true rfl) rfl (fun C X Y hC => ?_)
  subst hC
  refine V_iload_n X dX3_put_0 rfl ?_
  refine V_if_ltN X dX3_put_1 20 (by decide) (by omega) ?_
  refine V_iload_n X dX3_put_4 rfl ?_
  refine V_aload_n X dX3_put_5 rfl ?_
  refine V_get X fl_X3_9 0 0 rfl rfl rfl dX3_put_6 ?_
  refine V_alen X (t0 := 0) 0 1 (nI 5) rfl rfl rfl rfl dX3_put_9 ?_
  refine V_icmp_geN X 20 dX3_put_10 (by decide) (by omega) (by decide) (fun c_2 => ?_) (fun c_2 => ?_)
  · exfalso; omega
  · refine V_aload_n X dX3_put_13 rfl ?_
    refine V_get X fl_X3_9 0 0 rfl rfl rfl dX3_put_14 ?_
    refine V_iload_n X dX3_put_17 rfl ?_
    refine V_iload_n X dX3_put_18 rfl ?_
    refine V_iastN X 0 1 rfl rfl (by omega) (by decide) dX3_put_19 ?_
    show V C 0 0 [gMo G a (nF (va_up wh p c)) (nF de) t (nI sv) (nI vt) (nI ps)] 20 [some (.ref (a 0)), some (.int (nI p)), some (.int (nI c))] []
    exact V_vret X Y () trivial rfl rfl dX3_put_20
set_option maxHeartbeats 4000000 in
set_option maxRecDepth 100000 in
theorem c_X3_deepAt (l : Launch) (G : mvG) (a : Nat → Nat) (wh : Nat → Nat) (de : Nat → Nat) (t : Nat → Int32) (sv : Nat) (vt : Nat) (ps : Nat) (c : Nat) (hc : c < 36) : KQ l yX3_deepAt cX3_deepAt 2 (some .int) (0, 0) G [.ref (a 0), .int (nI c)] [gMo G a (nF wh) (nF de) t (nI sv) (nI vt) (nI ps)] (fun (_ : Unit) => some (.int (nI (de c)))) (fun (_ : Unit) => True) (fun (_ : Unit) => [gMo G a (nF wh) (nF de) t (nI sv) (nI vt) (nI ps)]) := by
  refine KQ.mk (by decide +kernel) (fun _ _ => rfl) [some (.ref (a 0)), some (.int (nI c))] (Nat.le_of_ble_eq_true rfl) rfl (fun C X Y hC => ?_)
  subst hC
  refine V_iload_n X dX3_deepAt_0 rfl ?_
  refine V_if_ltN X dX3_deepAt_1 22 (by decide) (by omega) ?_
  refine V_iload_n X dX3_deepAt_4 rfl ?_
  refine V_aload_n X dX3_deepAt_5 rfl ?_
  refine V_get X fl_X3_15 0 0 rfl rfl rfl dX3_deepAt_6 ?_
  refine V_alen X (t0 := 0) 0 2 (nI 36) rfl rfl rfl rfl dX3_deepAt_9 ?_
  refine V_icmp_geN X 22 dX3_deepAt_10 (by decide) (by omega) (by decide) (fun c_2 => ?_) (fun c_2 => ?_)
  · exfalso; omega
  · refine V_aload_n X dX3_deepAt_13 rfl ?_
    refine V_get X fl_X3_15 0 0 rfl rfl rfl dX3_deepAt_14 ?_
    refine V_iload_n X dX3_deepAt_17 rfl ?_
    refine V_ialdN X 0 2 rfl rfl (by omega) (by decide) dX3_deepAt_18 ?_
    refine V_goto X 23 dX3_deepAt_19 (by decide) ?_
    exact V_iret X Y () trivial rfl rfl rfl dX3_deepAt_23
set_option maxHeartbeats 4000000 in
set_option maxRecDepth 100000 in
theorem c_X3_deepAt_z (l : Launch) (G : mvG) (a : Nat → Nat) (wh : Nat → Nat) (de : Nat → Nat) (t : Nat → Int32) (sv : Nat) (vt : Nat) (ps : Nat) (z : Int) (hz : -2147483648 ≤ z ∧ z < 2147483648) : KQ l yX3_deepAt cX3_deepAt 2 (some .int) (0, 0) G [.ref (a 0), .int (iI z)] [gMo G a (nF wh) (nF de) t (nI sv) (nI vt) (nI ps)] (fun (_ : Unit) => some (.int (nI (dAt de z)))) (fun (_ : Unit) => True) (fun (_ : Unit) => [gMo G a (nF wh) (nF de) t (nI sv) (nI vt) (nI ps)]) := by
  refine KQ.mk (by decide +kernel) (fun _ _ => rfl) [some (.ref (a 0)), some (.int (iI z))] (Nat.le_of_ble_eq_true rfl) rfl (fun C X Y hC => ?_)
  subst hC
  refine V_iload_n X dX3_deepAt_0 rfl ?_
  refine V_if_ltI (i := z) X 22 dX3_deepAt_1 (by decide) (iI_toInt (by omega) (by omega)) (fun c_1 => ?_) (fun c_1 => ?_)
  · refine V_iconst X (nI 0) dX3_deepAt_22 (by decide) ?_
    exact V_iret X Y () trivial (mv_rn (by simp only [dAt]; first | rw [if_pos (by omega)] | rw [if_neg (by omega)])) rfl rfl dX3_deepAt_23
  · refine V_iload_n X dX3_deepAt_4 rfl ?_
    refine V_aload_n X dX3_deepAt_5 rfl ?_
    refine V_get X fl_X3_15 0 0 rfl rfl rfl dX3_deepAt_6 ?_
    refine V_alen X (t0 := 0) 0 2 (nI 36) rfl rfl rfl rfl dX3_deepAt_9 ?_
    refine V_icmp_geI (i := z) (j := 36) X 22 dX3_deepAt_10 (by decide) (iI_toInt (by omega) (by omega)) (nI_toInt (by decide)) (fun c_2 => ?_) (fun c_2 => ?_)
    · refine V_iconst X (nI 0) dX3_deepAt_22 (by decide) ?_
      exact V_iret X Y () trivial (mv_rn (by simp only [dAt]; first | rw [if_pos (by omega)] | rw [if_neg (by omega)])) rfl rfl dX3_deepAt_23
    · refine V_loc (y := (nI z.toNat)) 1 rfl (mv_sn (by omega)) ?_
      refine V_aload_n X dX3_deepAt_13 rfl ?_
      refine V_get X fl_X3_15 0 0 rfl rfl rfl dX3_deepAt_14 ?_
      refine V_iload_n X dX3_deepAt_17 rfl ?_
      refine V_ialdN X 0 2 rfl rfl (by omega) (by decide) dX3_deepAt_18 ?_
      refine V_goto X 23 dX3_deepAt_19 (by decide) ?_
      exact V_iret X Y () trivial (mv_rn (by simp only [dAt]; first | rw [if_pos (by omega)] | rw [if_neg (by omega)])) rfl rfl dX3_deepAt_23
set_option maxHeartbeats 4000000 in
set_option maxRecDepth 100000 in
theorem c_X3_toesAt (l : Launch) (G : mvG) (a : Nat → Nat) (wh : Nat → Nat) (de : Nat → Nat) (t : Nat → Int32) (sv : Nat) (vt : Nat) (ps : Nat) (c : Nat) (hc : c < 36) : KQ l yX3_toesAt cX3_toesAt 2 (some .int) (0, 0) G [.ref (a 0), .int (nI c)] [gMo G a (nF wh) (nF de) t (nI sv) (nI vt) (nI ps)] (fun (_ : Unit) => some (.int (t c))) (fun (_ : Unit) => True) (fun (_ : Unit) => [gMo G a (nF wh) (nF de) t (nI sv) (nI vt) (nI ps)]) := by
  refine KQ.mk (by decide +kernel) (fun _ _ => rfl) [some (.ref (a 0)), some (.int (nI c))] (Nat.le_of_ble_eq_true rfl) rfl (fun C X Y hC => ?_)
  subst hC
  refine V_iload_n X dX3_toesAt_0 rfl ?_
  refine V_if_ltN X dX3_toesAt_1 22 (by decide) (by omega) ?_
  refine V_iload_n X dX3_toesAt_4 rfl ?_
  refine V_aload_n X dX3_toesAt_5 rfl ?_
  refine V_get X fl_X3_18 0 0 rfl rfl rfl dX3_toesAt_6 ?_
  refine V_alen X (t0 := 0) 0 3 (nI 36) rfl rfl rfl rfl dX3_toesAt_9 ?_
  refine V_icmp_geN X 22 dX3_toesAt_10 (by decide) (by omega) (by decide) (fun c_2 => ?_) (fun c_2 => ?_)
  · exfalso; omega
  · refine V_aload_n X dX3_toesAt_13 rfl ?_
    refine V_get X fl_X3_18 0 0 rfl rfl rfl dX3_toesAt_14 ?_
    refine V_iload_n X dX3_toesAt_17 rfl ?_
    refine V_ialdR X 0 3 rfl rfl (by omega) (by decide) dX3_toesAt_18 ?_
    refine V_goto X 24 dX3_toesAt_19 (by decide) ?_
    exact V_iret X Y () trivial rfl rfl rfl dX3_toesAt_24
set_option maxHeartbeats 4000000 in
set_option maxRecDepth 100000 in
theorem c_X3_setDeep (l : Launch) (G : mvG) (a : Nat → Nat) (wh : Nat → Nat) (de : Nat → Nat) (t : Nat → Int32) (sv : Nat) (vt : Nat) (ps : Nat) (c : Nat) (v : Nat) (hc : c < 36) : KQ l yX3_setDeep cX3_setDeep 3 none (0, 0) G [.ref (a 0), .int (nI c), .int (nI v)] [gMo G a (nF wh) (nF de) t (nI sv) (nI vt) (nI ps)] (fun (_ : Unit) => none) (fun (_ : Unit) => True) (fun (_ : Unit) => [gMo G a (nF wh) (nF (va_up de c v)) t (nI sv) (nI vt) (nI ps)]) := by
  refine KQ.mk (by decide +kernel) (fun _ _ => rfl) [some (.ref (a 0)), some (.int (nI c)), some (.int (nI v))] (Nat.le_of_ble_eq_true rfl) rfl (fun C X Y hC => ?_)
  subst hC
  refine V_iload_n X dX3_setDeep_0 rfl ?_
  refine V_if_ltN X dX3_setDeep_1 20 (by decide) (by omega) ?_
  refine V_iload_n X dX3_setDeep_4 rfl ?_
  refine V_aload_n X dX3_setDeep_5 rfl ?_
  refine V_get X fl_X3_15 0 0 rfl rfl rfl dX3_setDeep_6 ?_
  refine V_alen X (t0 := 0) 0 2 (nI 36) rfl rfl rfl rfl dX3_setDeep_9 ?_
  refine V_icmp_geN X 20 dX3_setDeep_10 (by decide) (by omega) (by decide) (fun c_2 => ?_) (fun c_2 => ?_)
  · exfalso; omega
  · refine V_aload_n X dX3_setDeep_13 rfl ?_
    refine V_get X fl_X3_15 0 0 rfl rfl rfl dX3_setDeep_14 ?_
    refine V_iload_n X dX3_setDeep_17 rfl ?_
    refine V_iload_n X dX3_setDeep_18 rfl ?_
    refine V_iastN X 0 2 rfl rfl (by omega) (by decide) dX3_setDeep_19 ?_
    show V C 0 0 [gMo G a (nF wh) (nF (va_up de c v)) t (nI sv) (nI vt) (nI ps)] 20 [some (.ref (a 0)), some (.int (nI c)), some (.int (nI v))] []
    exact V_vret X Y () trivial rfl rfl dX3_setDeep_20
set_option maxHeartbeats 4000000 in
set_option maxRecDepth 100000 in
theorem c_X3_deepTogether (l : Launch) (G : mvG) (a : Nat → Nat) (wh : Nat → Nat) (de : Nat → Nat) (t : Nat → Int32) (sv : Nat) (vt : Nat) (ps : Nat) : KQ l yX3_deepTogether cX3_deepTogether 3 (some .int) (0, 0) G [.ref (a 0)] [gMo G a (nF wh) (nF de) t (nI sv) (nI vt) (nI ps)] (fun (_ : Unit) => some (.int (nI (dSum de 36)))) (fun (_ : Unit) => True) (fun (_ : Unit) => [gMo G a (nF wh) (nF de) t (nI sv) (nI vt) (nI ps)]) := by
  refine KQ.mk (by decide +kernel) (fun _ _ => rfl) [some (.ref (a 0)), none, none] (Nat.le_of_ble_eq_true rfl) rfl (fun C X Y hC => ?_)
  subst hC
  refine V_iconst X (nI 0) dX3_deepTogether_0 (by decide) ?_
  refine V_istore_n X dX3_deepTogether_1 (by decide) rfl ?_
  refine V_iconst X (nI 0) dX3_deepTogether_2 (by decide) ?_
  refine V_istore_n X dX3_deepTogether_3 (by decide) rfl ?_
  have L_4 : ∀ (fz_4 : Nat) (x : Nat) (c : Nat) (hc : c ≤ 36) (hx : x = dSum de c), (36 - c) < fz_4 → V C 0 0 [gMo G a (nF wh) (nF de) t (nI sv) (nI vt) (nI ps)] 4 [some (.ref (a 0)), some (.int (nI x)), some (.int (nI c))] [] := by
    intro fz_4
    induction fz_4 with
    | zero => intro x c hc hx hf_4; exact absurd hf_4 (Nat.not_lt_zero _)
    | succ fz_4 ih_4 =>
      intro x c hc hx hf_4
      refine V_iload_n X dX3_deepTogether_4 rfl ?_
      refine V_aload_n X dX3_deepTogether_5 rfl ?_
      refine V_get X fl_X3_15 0 0 rfl rfl rfl dX3_deepTogether_6 ?_
      refine V_alen X (t0 := 0) 0 2 (nI 36) rfl rfl rfl rfl dX3_deepTogether_9 ?_
      refine V_icmp_geN X 28 dX3_deepTogether_10 (by decide) (by omega) (by decide) (fun c_1 => ?_) (fun c_1 => ?_)
      · refine V_iload_n X dX3_deepTogether_28 rfl ?_
        exact V_iret X Y () trivial (mv_rn (by rw [hx, show c = 36 by omega])) rfl rfl dX3_deepTogether_29
      · refine V_iload_n X dX3_deepTogether_13 rfl ?_
        refine V_aload_n X dX3_deepTogether_14 rfl ?_
        refine V_get X fl_X3_15 0 0 rfl rfl rfl dX3_deepTogether_15 ?_
        refine V_iload_n X dX3_deepTogether_18 rfl ?_
        refine V_ialdN X 0 2 rfl rfl (by omega) (by decide) dX3_deepTogether_19 ?_
        refine V_iaddN X dX3_deepTogether_20 ?_
        refine V_istore_n X dX3_deepTogether_21 (by decide) rfl ?_
        refine V_iincN X (c := 1) dX3_deepTogether_22 rfl (by decide) rfl ?_
        refine V_goto X 4 dX3_deepTogether_25 (by decide) ?_
        refine V_weak (lv' := [some (.ref (a 0)), some (.int (nI (x + (de c)))), some (.int (nI (c + 1)))]) (And.intro rfl (And.intro rfl (And.intro rfl trivial))) ?_
        exact ih_4 (x + (de c)) (c + 1) (by omega) (by rw [hx]; rfl) (by omega)
  refine V_weak (lv' := [some (.ref (a 0)), some (.int (nI 0)), some (.int (nI 0))]) (And.intro rfl (And.intro rfl (And.intro rfl trivial))) ?_
  exact L_4 _ 0 0 (by omega) rfl (Nat.lt_succ_self _)
set_option maxHeartbeats 4000000 in
set_option maxRecDepth 100000 in
theorem c_X3_print (l : Launch) (G : mvG) (a : Nat → Nat) (wh : Nat → Nat) (de : Nat → Nat) (t : Nat → Int32) (sv : Nat) (vt : Nat) (ps : Nat) (c : Nat) (k : Nat) (d : Nat) (hc : c < 36) (hk : k ≤ 4) (hde : de c ≤ 9) : KQ l yX3_print cX3_print 4 (some .int) (1, 15) G [.ref (a 0), .int (nI c), .int (nI k), .int (nI d)] [gMo G a (nF wh) (nF de) t (nI sv) (nI vt) (nI ps)] (fun (_ : Unit) => some (.int (nI (min 9 (de c + k))))) (fun (_ : Unit) => True) (fun (_ : Unit) => [gMo G a (nF wh) (nF (va_up de c (min 9 (de c + k)))) (upd t c (nI d)) (nI sv) (nI vt) (nI ps)]) := by
  refine KQ.mk (by decide +kernel) (fun _ _ => rfl) [some (.ref (a 0)), some (.int (nI c)), some (.int (nI k)), some (.int (nI d))] (Nat.le_of_ble_eq_true rfl) rfl (fun C X Y hC => ?_)
  subst hC
  refine V_iload_n X dX3_print_0 rfl ?_
  refine V_if_ltN X dX3_print_1 10 (by decide) (by omega) ?_
  refine V_iload_n X dX3_print_4 rfl ?_
  refine V_bipush X (nI 36) dX3_print_5 (by decide) ?_
  refine V_icmp_ltN X 12 dX3_print_7 (by decide) (by omega) (by decide) (fun c_2 => ?_) (fun c_2 => ?_)
  · refine V_aload_n X dX3_print_12 rfl ?_
    refine V_get X fl_X3_15 0 0 rfl rfl rfl dX3_print_13 ?_
    refine V_iload_n X dX3_print_16 rfl ?_
    refine V_bipush X (nI 9) dX3_print_17 (by decide) ?_
    refine V_aload_n X dX3_print_19 rfl ?_
    refine V_get X fl_X3_15 0 0 rfl rfl rfl dX3_print_20 ?_
    refine V_iload_n X dX3_print_23 rfl ?_
    refine V_ialdN X 0 2 rfl rfl (by omega) (by decide) dX3_print_24 ?_
    refine V_iload_n X dX3_print_25 rfl ?_
    refine V_iaddN X dX3_print_26 ?_
    refine V_mminN X kw_2_235 dX3_print_27 (by decide) (Nat.le_of_ble_eq_true rfl) ⟨rfl, rfl⟩ (by omega) (by omega) ?_
    refine V_iastN X 0 2 rfl rfl (by omega) (by decide) dX3_print_30 ?_
    show V C 0 0 [gMo G a (nF wh) (nF (va_up de c (min 9 ((de c) + k)))) t (nI sv) (nI vt) (nI ps)] 31 [some (.ref (a 0)), some (.int (nI c)), some (.int (nI k)), some (.int (nI d))] []
    refine V_aload_n X dX3_print_31 rfl ?_
    refine V_get X fl_X3_18 0 0 rfl rfl rfl dX3_print_32 ?_
    refine V_iload_n X dX3_print_35 rfl ?_
    refine V_iload_n X dX3_print_36 rfl ?_
    refine V_iastR X 0 3 rfl rfl (by omega) (by decide) dX3_print_37 ?_
    show V C 0 0 [gMo G a (nF wh) (nF (va_up de c (min 9 ((de c) + k)))) (upd t c (nI d)) (nI sv) (nI vt) (nI ps)] 38 [some (.ref (a 0)), some (.int (nI c)), some (.int (nI k)), some (.int (nI d))] []
    refine V_aload_n X dX3_print_38 rfl ?_
    refine V_get X fl_X3_15 0 0 rfl rfl rfl dX3_print_39 ?_
    refine V_iload_n X dX3_print_42 rfl ?_
    refine V_ialdN X 0 2 rfl rfl (by omega) (by decide) dX3_print_43 ?_
    exact V_iret X Y () trivial (mv_rn (by simp only [va_up, if_true])) rfl rfl dX3_print_44
  · exfalso; omega
set_option maxHeartbeats 4000000 in
set_option maxRecDepth 100000 in
theorem c_X3_dry (l : Launch) (G : mvG) (a : Nat → Nat) (wh : Nat → Nat) (de : Nat → Nat) (t : Nat → Int32) (sv : Nat) (vt : Nat) (ps : Nat) (c : Nat) (hc : c < 36) : KQ l yX3_dry cX3_dry 2 none (0, 0) G [.ref (a 0), .int (nI c)] [gMo G a (nF wh) (nF de) t (nI sv) (nI vt) (nI ps)] (fun (_ : Unit) => none) (fun (_ : Unit) => True) (fun (_ : Unit) => [gMo G a (nF wh) (nF (va_up de c 0)) (upd t c (-9)) (nI sv) (nI vt) (nI ps)]) := by
  refine KQ.mk (by decide +kernel) (fun _ _ => rfl) [some (.ref (a 0)), some (.int (nI c))] (Nat.le_of_ble_eq_true rfl) rfl (fun C X Y hC => ?_)
  subst hC
  refine V_iload_n X dX3_dry_0 rfl ?_
  refine V_if_ltN X dX3_dry_1 25 (by decide) (by omega) ?_
  refine V_iload_n X dX3_dry_4 rfl ?_
  refine V_bipush X (nI 36) dX3_dry_5 (by decide) ?_
  refine V_icmp_geN X 25 dX3_dry_7 (by decide) (by omega) (by decide) (fun c_2 => ?_) (fun c_2 => ?_)
  · exfalso; omega
  · refine V_aload_n X dX3_dry_10 rfl ?_
    refine V_get X fl_X3_15 0 0 rfl rfl rfl dX3_dry_11 ?_
    refine V_iload_n X dX3_dry_14 rfl ?_
    refine V_iconst X (nI 0) dX3_dry_15 (by decide) ?_
    refine V_iastN X 0 2 rfl rfl (by omega) (by decide) dX3_dry_16 ?_
    show V C 0 0 [gMo G a (nF wh) (nF (va_up de c 0)) t (nI sv) (nI vt) (nI ps)] 17 [some (.ref (a 0)), some (.int (nI c))] []
    refine V_aload_n X dX3_dry_17 rfl ?_
    refine V_get X fl_X3_18 0 0 rfl rfl rfl dX3_dry_18 ?_
    refine V_iload_n X dX3_dry_21 rfl ?_
    refine V_bipush X (-9) dX3_dry_22 (by decide) ?_
    refine V_iastR X 0 3 rfl rfl (by omega) (by decide) dX3_dry_24 ?_
    show V C 0 0 [gMo G a (nF wh) (nF (va_up de c 0)) (upd t c (-9)) (nI sv) (nI vt) (nI ps)] 25 [some (.ref (a 0)), some (.int (nI c))] []
    exact V_vret X Y () trivial rfl rfl dX3_dry_25
set_option maxHeartbeats 4000000 in
set_option maxRecDepth 100000 in
theorem c_X3_soak (l : Launch) (G : mvG) (a : Nat → Nat) (wh : Nat → Nat) (de : Nat → Nat) (t : Nat → Int32) (sv : Nat) (vt : Nat) (ps : Nat) (k : Nat) (hk : 1 ≤ k ∧ k ≤ 9) (hde : ∀ j, de j ≤ 9) : KQ l yX3_soak cX3_soak 4 (some .int) (1, 21) G [.ref (a 0), .int (nI k)] [gMo G a (nF wh) (nF de) t (nI sv) (nI vt) (nI ps)] (fun (_ : Unit) => some (.int (nI (cntS de k 36)))) (fun (_ : Unit) => True) (fun (_ : Unit) => [gMo G a (nF wh) (nF (soakD de k)) (soakT de k t) (nI sv) (nI vt) (nI ps)]) := by
  refine KQ.mk (by decide +kernel) (fun _ _ => rfl) [some (.ref (a 0)), some (.int (nI k)), none, none] (Nat.le_of_ble_eq_true rfl) rfl (fun C X Y hC => ?_)
  subst hC
  refine V_iconst X (nI 0) dX3_soak_0 (by decide) ?_
  refine V_istore_n X dX3_soak_1 (by decide) rfl ?_
  refine V_iconst X (nI 0) dX3_soak_2 (by decide) ?_
  refine V_istore_n X dX3_soak_3 (by decide) rfl ?_
  have L_4 : ∀ (fz_4 : Nat) (x : Nat) (c : Nat) (d : Nat → Nat) (g : Nat → Int32) (hc : c ≤ 36) (hd : ∀ j, d j = if j < c then de j - k else de j) (hg : ∀ j, g j = if j < c ∧ 0 < de j ∧ de j ≤ k then -9 else t j) (hx : x = cntS de k c), (36 - c) < fz_4 → V C 0 0 [gMo G a (nF wh) (nF d) g (nI sv) (nI vt) (nI ps)] 4 [some (.ref (a 0)), some (.int (nI k)), some (.int (nI x)), some (.int (nI c))] [] := by
    intro fz_4
    induction fz_4 with
    | zero => intro x c d g hc hd hg hx hf_4; exact absurd hf_4 (Nat.not_lt_zero _)
    | succ fz_4 ih_4 =>
      intro x c d g hc hd hg hx hf_4
      refine V_iload_n X dX3_soak_4 rfl ?_
      refine V_bipush X (nI 36) dX3_soak_5 (by decide) ?_
      refine V_icmp_geN X 56 dX3_soak_7 (by decide) (by omega) (by decide) (fun c_1 => ?_) (fun c_1 => ?_)
      · refine V_arr (nF (soakD de k)) 0 2 rfl rfl (fun j hj => by simp only [nF, soakD, hd]; rw [if_pos (by omega)]) ?_
        show V C 0 0 [gMo G a (nF wh) (nF (soakD de k)) g (nI sv) (nI vt) (nI ps)] 56 [some (.ref (a 0)), some (.int (nI k)), some (.int (nI x)), some (.int (nI c))] []
        refine V_arr (soakT de k t) 0 3 rfl rfl (fun j hj => by simp only [soakT, hg]; by_cases h : 0 < de j ∧ de j ≤ k; rw [if_pos ⟨by omega, h⟩, if_pos h]; rw [if_neg (fun z => h z.2), if_neg h]) ?_
        show V C 0 0 [gMo G a (nF wh) (nF (soakD de k)) (soakT de k t) (nI sv) (nI vt) (nI ps)] 56 [some (.ref (a 0)), some (.int (nI k)), some (.int (nI x)), some (.int (nI c))] []
        refine V_iload_n X dX3_soak_56 rfl ?_
        exact V_iret X Y () trivial (mv_rn (by rw [hx, show c = 36 by omega])) rfl rfl dX3_soak_57
      · have hdc : d c = de c := by rw [hd, if_neg (by omega)]
        have hde9 := hde c
        refine V_aload_n X dX3_soak_10 rfl ?_
        refine V_get X fl_X3_15 0 0 rfl rfl rfl dX3_soak_11 ?_
        refine V_iload_n X dX3_soak_14 rfl ?_
        refine V_ialdN X 0 2 rfl rfl (by omega) (by decide) dX3_soak_15 ?_
        refine V_iload_n X dX3_soak_16 rfl ?_
        refine V_icmp_leN X 33 dX3_soak_17 (by decide) (by omega) (by omega) (fun c_2 => ?_) (fun c_2 => ?_)
        · refine V_aload_n X dX3_soak_33 rfl ?_
          refine V_get X fl_X3_15 0 0 rfl rfl rfl dX3_soak_34 ?_
          refine V_iload_n X dX3_soak_37 rfl ?_
          refine V_ialdN X 0 2 rfl rfl (by omega) (by decide) dX3_soak_38 ?_
          refine V_if_leN X 50 dX3_soak_39 (by decide) (by omega) (fun c_3 => ?_) (fun c_3 => ?_)
          · refine V_iincN X (c := 1) dX3_soak_50 rfl (by decide) rfl ?_
            refine V_goto X 4 dX3_soak_53 (by decide) ?_
            refine V_weak (lv' := [some (.ref (a 0)), some (.int (nI k)), some (.int (nI x)), some (.int (nI (c + 1)))]) (And.intro rfl (And.intro rfl (And.intro rfl (And.intro rfl trivial)))) ?_
            exact ih_4 x (c + 1) d g (by omega) (soakH hd hdc (by first | exact Or.inl ⟨rfl, by omega⟩ | exact Or.inr ⟨_, rfl, by omega⟩)) (soakG hg hd hdc (by first | exact Or.inl ⟨rfl, by omega⟩ | exact Or.inr ⟨rfl, by omega⟩)) (by simp only [cntS]; first | rw [if_pos (by omega), hx] | rw [if_neg (by omega), hx, Nat.add_zero]) (by omega)
          · refine V_aload_n X dX3_soak_42 rfl ?_
            refine V_iload_n X dX3_soak_43 rfl ?_
            refine V_callV (rest := []) X (c_X3_dry (Cl C) G a wh d g sv vt ps c (by first | assumption | omega)) mi_X3_dry kw_3_8 kw_3_10 kw_s_15 dX3_soak_44 [0] rfl (by decide) 0 0 rfl rfl rfl rfl rfl rfl (by decide) (Nat.le_of_ble_eq_true rfl) ⟨rfl, rfl⟩ (fun _ _ => ?_)
            show V C 0 0 [gMo G a (nF wh) (nF (va_up d c 0)) (upd g c (-9)) (nI sv) (nI vt) (nI ps)] 47 [some (.ref (a 0)), some (.int (nI k)), some (.int (nI x)), some (.int (nI c))] []
            refine V_iincN X (c := 1) dX3_soak_47 rfl (by decide) rfl ?_
            refine V_iincN X (c := 1) dX3_soak_50 rfl (by decide) rfl ?_
            refine V_goto X 4 dX3_soak_53 (by decide) ?_
            refine V_weak (lv' := [some (.ref (a 0)), some (.int (nI k)), some (.int (nI (x + 1))), some (.int (nI (c + 1)))]) (And.intro rfl (And.intro rfl (And.intro rfl (And.intro rfl trivial)))) ?_
            exact ih_4 (x + 1) (c + 1) (va_up d c 0) (upd g c (-9)) (by omega) (soakH hd hdc (by first | exact Or.inl ⟨rfl, by omega⟩ | exact Or.inr ⟨_, rfl, by omega⟩)) (soakG hg hd hdc (by first | exact Or.inl ⟨rfl, by omega⟩ | exact Or.inr ⟨rfl, by omega⟩)) (by simp only [cntS]; first | rw [if_pos (by omega), hx] | rw [if_neg (by omega), hx, Nat.add_zero]) (by omega)
        · refine V_aload_n X dX3_soak_20 rfl ?_
          refine V_get X fl_X3_15 0 0 rfl rfl rfl dX3_soak_21 ?_
          refine V_iload_n X dX3_soak_24 rfl ?_
          refine V_dup2 X dX3_soak_25 rfl rfl ?_
          refine V_ialdN X 0 2 rfl rfl (by omega) (by decide) dX3_soak_26 ?_
          refine V_iload_n X dX3_soak_27 rfl ?_
          refine V_isubN X dX3_soak_28 (by omega) ?_
          refine V_iastN X 0 2 rfl rfl (by omega) (by decide) dX3_soak_29 ?_
          show V C 0 0 [gMo G a (nF wh) (nF (va_up d c ((d c) - k))) g (nI sv) (nI vt) (nI ps)] 30 [some (.ref (a 0)), some (.int (nI k)), some (.int (nI x)), some (.int (nI c))] []
          refine V_goto X 50 dX3_soak_30 (by decide) ?_
          refine V_iincN X (c := 1) dX3_soak_50 rfl (by decide) rfl ?_
          refine V_goto X 4 dX3_soak_53 (by decide) ?_
          refine V_weak (lv' := [some (.ref (a 0)), some (.int (nI k)), some (.int (nI x)), some (.int (nI (c + 1)))]) (And.intro rfl (And.intro rfl (And.intro rfl (And.intro rfl trivial)))) ?_
          exact ih_4 x (c + 1) (va_up d c ((d c) - k)) g (by omega) (soakH hd hdc (by first | exact Or.inl ⟨rfl, by omega⟩ | exact Or.inr ⟨_, rfl, by omega⟩)) (soakG hg hd hdc (by first | exact Or.inl ⟨rfl, by omega⟩ | exact Or.inr ⟨rfl, by omega⟩)) (by simp only [cntS]; first | rw [if_pos (by omega), hx] | rw [if_neg (by omega), hx, Nat.add_zero]) (by omega)
  refine V_weak (lv' := [some (.ref (a 0)), some (.int (nI k)), some (.int (nI 0)), some (.int (nI 0))]) (And.intro rfl (And.intro rfl (And.intro rfl (And.intro rfl trivial)))) ?_
  exact L_4 _ 0 0 de t (by omega) (fun j => by rw [if_neg (by omega)]) (fun j => by rw [if_neg (by omega)]) rfl (Nat.lt_succ_self _)
set_option maxHeartbeats 4000000 in
set_option maxRecDepth 100000 in
theorem c_X3_trayDeep (l : Launch) (G : mvG) (a : Nat → Nat) (wh : Nat → Nat) (de : Nat → Nat) (t : Nat → Int32) (sv : Nat) (vt : Nat) (ps : Nat) (x : Nat) (y : Nat) (hx : x < 5) (hy : y < 5) (hde : ∀ j, de j ≤ 9) : KQ l yX3_trayDeep cX3_trayDeep 3 (some .int) (2, 41) G [.ref (a 0), .int (nI x), .int (nI y)] [gMo G a (nF wh) (nF de) t (nI sv) (nI vt) (nI ps)] (fun (_ : Unit) => some (.int (nI (tray de (6 * x + y))))) (fun (_ : Unit) => True) (fun (_ : Unit) => [gMo G a (nF wh) (nF de) t (nI sv) (nI vt) (nI ps)]) := by
  refine KQ.mk (by decide +kernel) (fun _ _ => rfl) [some (.ref (a 0)), some (.int (nI x)), some (.int (nI y))] (Nat.le_of_ble_eq_true rfl) rfl (fun C X Y hC => ?_)
  subst hC
  refine V_aload_n X dX3_trayDeep_0 rfl ?_
  refine V_iload_n X dX3_trayDeep_1 rfl ?_
  refine V_iload_n X dX3_trayDeep_2 rfl ?_
  refine V_callSN (rest := [.ref (a 0)]) X (c_X11_placeAt (Cl C) G ((x : Nat) : Int) ((y : Nat) : Int) (by first | assumption | omega) (by first | assumption | omega)) mi_X11_placeAt kw_2_212 kw_2_84 dX3_trayDeep_3 [] rfl (by decide) rfl rfl (by decide) (Nat.le_of_ble_eq_true rfl) ⟨rfl, rfl⟩ (fun u_ hu_2 => ?_)
  obtain ⟨z_1, rfl⟩ : ∃ z, z = u_ := ⟨_, rfl⟩
  have hu_2 : (0 ≤ ((x : Nat) : Int) ∧ ((x : Nat) : Int) < 6 ∧ 0 ≤ ((y : Nat) : Int) ∧ ((y : Nat) : Int) < 6 ∧ z_1 = 6 * ((x : Nat) : Int) + ((y : Nat) : Int)) ∨ ((((x : Nat) : Int) < 0 ∨ 6 ≤ ((x : Nat) : Int) ∨ ((y : Nat) : Int) < 0 ∨ 6 ≤ ((y : Nat) : Int)) ∧ z_1 = -9) := hu_2
  show V C 0 0 [gMo G a (nF wh) (nF de) t (nI sv) (nI vt) (nI ps)] 6 [some (.ref (a 0)), some (.int (nI x)), some (.int (nI y))] [.int (iI z_1), .ref (a 0)]
  refine V_topi (show (iI z_1) = (nI (6 * x + y)) from (mv_zn (by omega))) ?_
  refine V_callV (rest := []) X (c_X3_deepAt (Cl C) G a wh de t sv vt ps (6 * x + y) (by first | assumption | omega)) mi_X3_deepAt kw_2_213 kw_2_146 kw_2_147 dX3_trayDeep_6 [0] rfl (by decide) 0 0 rfl rfl rfl rfl rfl rfl (by decide) (Nat.le_of_ble_eq_true rfl) ⟨rfl, rfl⟩ (fun _ _ => ?_)
  show V C 0 0 [gMo G a (nF wh) (nF de) t (nI sv) (nI vt) (nI ps)] 9 [some (.ref (a 0)), some (.int (nI x)), some (.int (nI y))] [.int (nI (de (6 * x + y)))]
  refine V_aload_n X dX3_trayDeep_9 rfl ?_
  refine V_iload_n X dX3_trayDeep_10 rfl ?_
  refine V_iconst X (nI 1) dX3_trayDeep_11 (by decide) ?_
  refine V_iaddN X dX3_trayDeep_12 ?_
  refine V_iload_n X dX3_trayDeep_13 rfl ?_
  refine V_callSN (rest := [.ref (a 0), .int (nI (de (6 * x + y)))]) X (c_X11_placeAt (Cl C) G ((x + 1 : Nat) : Int) ((y : Nat) : Int) (by first | assumption | omega) (by first | assumption | omega)) mi_X11_placeAt kw_2_212 kw_2_84 dX3_trayDeep_14 [] rfl (by decide) rfl rfl (by decide) (Nat.le_of_ble_eq_true rfl) ⟨rfl, rfl⟩ (fun u_ hu_4 => ?_)
  obtain ⟨z_3, rfl⟩ : ∃ z, z = u_ := ⟨_, rfl⟩
  have hu_4 : (0 ≤ ((x + 1 : Nat) : Int) ∧ ((x + 1 : Nat) : Int) < 6 ∧ 0 ≤ ((y : Nat) : Int) ∧ ((y : Nat) : Int) < 6 ∧ z_3 = 6 * ((x + 1 : Nat) : Int) + ((y : Nat) : Int)) ∨ ((((x + 1 : Nat) : Int) < 0 ∨ 6 ≤ ((x + 1 : Nat) : Int) ∨ ((y : Nat) : Int) < 0 ∨ 6 ≤ ((y : Nat) : Int)) ∧ z_3 = -9) := hu_4
  show V C 0 0 [gMo G a (nF wh) (nF de) t (nI sv) (nI vt) (nI ps)] 17 [some (.ref (a 0)), some (.int (nI x)), some (.int (nI y))] [.int (iI z_3), .ref (a 0), .int (nI (de (6 * x + y)))]
  refine V_topi (show (iI z_3) = (nI (6 * x + y + 6)) from (mv_zn (by omega))) ?_
  refine V_callV (rest := [.int (nI (de (6 * x + y)))]) X (c_X3_deepAt (Cl C) G a wh de t sv vt ps (6 * x + y + 6) (by first | assumption | omega)) mi_X3_deepAt kw_2_213 kw_2_146 kw_2_147 dX3_trayDeep_17 [0] rfl (by decide) 0 0 rfl rfl rfl rfl rfl rfl (by decide) (Nat.le_of_ble_eq_true rfl) ⟨rfl, rfl⟩ (fun _ _ => ?_)
  show V C 0 0 [gMo G a (nF wh) (nF de) t (nI sv) (nI vt) (nI ps)] 20 [some (.ref (a 0)), some (.int (nI x)), some (.int (nI y))] [.int (nI (de (6 * x + y + 6))), .int (nI (de (6 * x + y)))]
  refine V_iaddN X dX3_trayDeep_20 ?_
  refine V_aload_n X dX3_trayDeep_21 rfl ?_
  refine V_iload_n X dX3_trayDeep_22 rfl ?_
  refine V_iload_n X dX3_trayDeep_23 rfl ?_
  refine V_iconst X (nI 1) dX3_trayDeep_24 (by decide) ?_
  refine V_iaddN X dX3_trayDeep_25 ?_
  refine V_callSN (rest := [.ref (a 0), .int (nI ((de (6 * x + y)) + (de (6 * x + y + 6))))]) X (c_X11_placeAt (Cl C) G ((x : Nat) : Int) ((y + 1 : Nat) : Int) (by first | assumption | omega) (by first | assumption | omega)) mi_X11_placeAt kw_2_212 kw_2_84 dX3_trayDeep_26 [] rfl (by decide) rfl rfl (by decide) (Nat.le_of_ble_eq_true rfl) ⟨rfl, rfl⟩ (fun u_ hu_6 => ?_)
  obtain ⟨z_5, rfl⟩ : ∃ z, z = u_ := ⟨_, rfl⟩
  have hu_6 : (0 ≤ ((x : Nat) : Int) ∧ ((x : Nat) : Int) < 6 ∧ 0 ≤ ((y + 1 : Nat) : Int) ∧ ((y + 1 : Nat) : Int) < 6 ∧ z_5 = 6 * ((x : Nat) : Int) + ((y + 1 : Nat) : Int)) ∨ ((((x : Nat) : Int) < 0 ∨ 6 ≤ ((x : Nat) : Int) ∨ ((y + 1 : Nat) : Int) < 0 ∨ 6 ≤ ((y + 1 : Nat) : Int)) ∧ z_5 = -9) := hu_6
  show V C 0 0 [gMo G a (nF wh) (nF de) t (nI sv) (nI vt) (nI ps)] 29 [some (.ref (a 0)), some (.int (nI x)), some (.int (nI y))] [.int (iI z_5), .ref (a 0), .int (nI ((de (6 * x + y)) + (de (6 * x + y + 6))))]
  refine V_topi (show (iI z_5) = (nI (6 * x + y + 1)) from (mv_zn (by omega))) ?_
  refine V_callV (rest := [.int (nI ((de (6 * x + y)) + (de (6 * x + y + 6))))]) X (c_X3_deepAt (Cl C) G a wh de t sv vt ps (6 * x + y + 1) (by first | assumption | omega)) mi_X3_deepAt kw_2_213 kw_2_146 kw_2_147 dX3_trayDeep_29 [0] rfl (by decide) 0 0 rfl rfl rfl rfl rfl rfl (by decide) (Nat.le_of_ble_eq_true rfl) ⟨rfl, rfl⟩ (fun _ _ => ?_)
  show V C 0 0 [gMo G a (nF wh) (nF de) t (nI sv) (nI vt) (nI ps)] 32 [some (.ref (a 0)), some (.int (nI x)), some (.int (nI y))] [.int (nI (de (6 * x + y + 1))), .int (nI ((de (6 * x + y)) + (de (6 * x + y + 6))))]
  refine V_iaddN X dX3_trayDeep_32 ?_
  refine V_aload_n X dX3_trayDeep_33 rfl ?_
  refine V_iload_n X dX3_trayDeep_34 rfl ?_
  refine V_iconst X (nI 1) dX3_trayDeep_35 (by decide) ?_
  refine V_iaddN X dX3_trayDeep_36 ?_
  refine V_iload_n X dX3_trayDeep_37 rfl ?_
  refine V_iconst X (nI 1) dX3_trayDeep_38 (by decide) ?_
  refine V_iaddN X dX3_trayDeep_39 ?_
  refine V_callSN (rest := [.ref (a 0), .int (nI (((de (6 * x + y)) + (de (6 * x + y + 6))) + (de (6 * x + y + 1))))]) X (c_X11_placeAt (Cl C) G ((x + 1 : Nat) : Int) ((y + 1 : Nat) : Int) (by first | assumption | omega) (by first | assumption | omega)) mi_X11_placeAt kw_2_212 kw_2_84 dX3_trayDeep_40 [] rfl (by decide) rfl rfl (by decide) (Nat.le_of_ble_eq_true rfl) ⟨rfl, rfl⟩ (fun u_ hu_8 => ?_)
  obtain ⟨z_7, rfl⟩ : ∃ z, z = u_ := ⟨_, rfl⟩
  have hu_8 : (0 ≤ ((x + 1 : Nat) : Int) ∧ ((x + 1 : Nat) : Int) < 6 ∧ 0 ≤ ((y + 1 : Nat) : Int) ∧ ((y + 1 : Nat) : Int) < 6 ∧ z_7 = 6 * ((x + 1 : Nat) : Int) + ((y + 1 : Nat) : Int)) ∨ ((((x + 1 : Nat) : Int) < 0 ∨ 6 ≤ ((x + 1 : Nat) : Int) ∨ ((y + 1 : Nat) : Int) < 0 ∨ 6 ≤ ((y + 1 : Nat) : Int)) ∧ z_7 = -9) := hu_8
  show V C 0 0 [gMo G a (nF wh) (nF de) t (nI sv) (nI vt) (nI ps)] 43 [some (.ref (a 0)), some (.int (nI x)), some (.int (nI y))] [.int (iI z_7), .ref (a 0), .int (nI (((de (6 * x + y)) + (de (6 * x + y + 6))) + (de (6 * x + y + 1))))]
  refine V_topi (show (iI z_7) = (nI (6 * x + y + 7)) from (mv_zn (by omega))) ?_
  refine V_callV (rest := [.int (nI (((de (6 * x + y)) + (de (6 * x + y + 6))) + (de (6 * x + y + 1))))]) X (c_X3_deepAt (Cl C) G a wh de t sv vt ps (6 * x + y + 7) (by first | assumption | omega)) mi_X3_deepAt kw_2_213 kw_2_146 kw_2_147 dX3_trayDeep_43 [0] rfl (by decide) 0 0 rfl rfl rfl rfl rfl rfl (by decide) (Nat.le_of_ble_eq_true rfl) ⟨rfl, rfl⟩ (fun _ _ => ?_)
  show V C 0 0 [gMo G a (nF wh) (nF de) t (nI sv) (nI vt) (nI ps)] 46 [some (.ref (a 0)), some (.int (nI x)), some (.int (nI y))] [.int (nI (de (6 * x + y + 7))), .int (nI (((de (6 * x + y)) + (de (6 * x + y + 6))) + (de (6 * x + y + 1))))]
  refine V_iaddN X dX3_trayDeep_46 ?_
  exact V_iret X Y () trivial (mv_rn (by simp only [tray]; omega)) rfl rfl dX3_trayDeep_47
set_option maxHeartbeats 4000000 in
set_option maxRecDepth 100000 in
theorem c_X3_lift (l : Launch) (G : mvG) (a : Nat → Nat) (wh : Nat → Nat) (de : Nat → Nat) (t : Nat → Int32) (sv : Nat) (vt : Nat) (ps : Nat) (x : Nat) (y : Nat) (hx : x < 5) (hy : y < 5) (hde : ∀ j, de j ≤ 9) (hsv : sv ≤ 999) : KQ l yX3_lift cX3_lift 3 none (3, 63) G [.ref (a 0), .int (nI x), .int (nI y)] [gMo G a (nF wh) (nF de) t (nI sv) (nI vt) (nI ps)] (fun (_ : Unit) => none) (fun (_ : Unit) => True) (fun (_ : Unit) => [gMo G a (nF wh) (nF (va_up (va_up (va_up (va_up de (6 * x + y) 0) (6 * x + y + 6) 0) (6 * x + y + 1) 0) (6 * x + y + 7) 0)) (upd (upd (upd (upd t (6 * x + y) (-9)) (6 * x + y + 6) (-9)) (6 * x + y + 1) (-9)) (6 * x + y + 7) (-9)) (nI (min 999 (sv + tray de (6 * x + y)))) (nI vt) (nI ps)]) := by
  refine KQ.mk (by decide +kernel) (fun _ _ => rfl) [some (.ref (a 0)), some (.int (nI x)), some (.int (nI y))] (Nat.le_of_ble_eq_true rfl) rfl (fun C X Y hC => ?_)
  subst hC
  refine V_aload_n X dX3_lift_0 rfl ?_
  refine V_sipush X (nI 999) dX3_lift_1 (by decide) ?_
  refine V_aload_n X dX3_lift_4 rfl ?_
  refine V_get X fl_X3_30 0 0 rfl rfl rfl dX3_lift_5 ?_
  refine V_aload_n X dX3_lift_8 rfl ?_
  refine V_iload_n X dX3_lift_9 rfl ?_
  refine V_iload_n X dX3_lift_10 rfl ?_
  refine V_callV (rest := [.int (nI sv), .int (nI 999), .ref (a 0)]) X (c_X3_trayDeep (Cl C) G a wh de t sv vt ps x y (by first | assumption | omega) (by first | assumption | omega) (by first | assumption | omega)) mi_X3_trayDeep kw_3_27 kw_3_20 kw_3_21 dX3_lift_11 [0] rfl (by decide) 0 0 rfl rfl rfl rfl rfl rfl (by decide) (Nat.le_of_ble_eq_true rfl) ⟨rfl, rfl⟩ (fun _ _ => ?_)
  show V C 0 0 [gMo G a (nF wh) (nF de) t (nI sv) (nI vt) (nI ps)] 14 [some (.ref (a 0)), some (.int (nI x)), some (.int (nI y))] [.int (nI (tray de (6 * x + y))), .int (nI sv), .int (nI 999), .ref (a 0)]
  have htr : tray de (6 * x + y) ≤ 36 := by have h1 := hde (6 * x + y); have h2 := hde (6 * x + y + 1); have h3 := hde (6 * x + y + 6); have h4 := hde (6 * x + y + 7); simp only [tray]; omega
  refine V_iaddN X dX3_lift_14 ?_
  refine V_mminN X kw_2_235 dX3_lift_15 (by decide) (Nat.le_of_ble_eq_true rfl) ⟨rfl, rfl⟩ (by omega) (by omega) ?_
  refine V_put X fl_X3_30 0 0 rfl rfl rfl rfl (Nat.le_of_ble_eq_true rfl) dX3_lift_18 ?_
  show V C 0 0 [gMo G a (nF wh) (nF de) t (nI (min 999 (sv + (tray de (6 * x + y))))) (nI vt) (nI ps)] 21 [some (.ref (a 0)), some (.int (nI x)), some (.int (nI y))] []
  refine V_aload_n X dX3_lift_21 rfl ?_
  refine V_iload_n X dX3_lift_22 rfl ?_
  refine V_iload_n X dX3_lift_23 rfl ?_
  refine V_callSN (rest := [.ref (a 0)]) X (c_X11_placeAt (Cl C) G ((x : Nat) : Int) ((y : Nat) : Int) (by first | assumption | omega) (by first | assumption | omega)) mi_X11_placeAt kw_2_212 kw_2_84 dX3_lift_24 [] rfl (by decide) rfl rfl (by decide) (Nat.le_of_ble_eq_true rfl) ⟨rfl, rfl⟩ (fun u_ hu_2 => ?_)
  obtain ⟨z_1, rfl⟩ : ∃ z, z = u_ := ⟨_, rfl⟩
  have hu_2 : (0 ≤ ((x : Nat) : Int) ∧ ((x : Nat) : Int) < 6 ∧ 0 ≤ ((y : Nat) : Int) ∧ ((y : Nat) : Int) < 6 ∧ z_1 = 6 * ((x : Nat) : Int) + ((y : Nat) : Int)) ∨ ((((x : Nat) : Int) < 0 ∨ 6 ≤ ((x : Nat) : Int) ∨ ((y : Nat) : Int) < 0 ∨ 6 ≤ ((y : Nat) : Int)) ∧ z_1 = -9) := hu_2
  show V C 0 0 [gMo G a (nF wh) (nF de) t (nI (min 999 (sv + (tray de (6 * x + y))))) (nI vt) (nI ps)] 27 [some (.ref (a 0)), some (.int (nI x)), some (.int (nI y))] [.int (iI z_1), .ref (a 0)]
  refine V_topi (show (iI z_1) = (nI (6 * x + y)) from (mv_zn (by omega))) ?_
  refine V_callV (rest := []) X (c_X3_dry (Cl C) G a wh de t (min 999 (sv + (tray de (6 * x + y)))) vt ps (6 * x + y) (by first | assumption | omega)) mi_X3_dry kw_3_8 kw_3_10 kw_s_15 dX3_lift_27 [0] rfl (by decide) 0 0 rfl rfl rfl rfl rfl rfl (by decide) (Nat.le_of_ble_eq_true rfl) ⟨rfl, rfl⟩ (fun _ _ => ?_)
  show V C 0 0 [gMo G a (nF wh) (nF (va_up de (6 * x + y) 0)) (upd t (6 * x + y) (-9)) (nI (min 999 (sv + (tray de (6 * x + y))))) (nI vt) (nI ps)] 30 [some (.ref (a 0)), some (.int (nI x)), some (.int (nI y))] []
  refine V_aload_n X dX3_lift_30 rfl ?_
  refine V_iload_n X dX3_lift_31 rfl ?_
  refine V_iconst X (nI 1) dX3_lift_32 (by decide) ?_
  refine V_iaddN X dX3_lift_33 ?_
  refine V_iload_n X dX3_lift_34 rfl ?_
  refine V_callSN (rest := [.ref (a 0)]) X (c_X11_placeAt (Cl C) G ((x + 1 : Nat) : Int) ((y : Nat) : Int) (by first | assumption | omega) (by first | assumption | omega)) mi_X11_placeAt kw_2_212 kw_2_84 dX3_lift_35 [] rfl (by decide) rfl rfl (by decide) (Nat.le_of_ble_eq_true rfl) ⟨rfl, rfl⟩ (fun u_ hu_4 => ?_)
  obtain ⟨z_3, rfl⟩ : ∃ z, z = u_ := ⟨_, rfl⟩
  have hu_4 : (0 ≤ ((x + 1 : Nat) : Int) ∧ ((x + 1 : Nat) : Int) < 6 ∧ 0 ≤ ((y : Nat) : Int) ∧ ((y : Nat) : Int) < 6 ∧ z_3 = 6 * ((x + 1 : Nat) : Int) + ((y : Nat) : Int)) ∨ ((((x + 1 : Nat) : Int) < 0 ∨ 6 ≤ ((x + 1 : Nat) : Int) ∨ ((y : Nat) : Int) < 0 ∨ 6 ≤ ((y : Nat) : Int)) ∧ z_3 = -9) := hu_4
  show V C 0 0 [gMo G a (nF wh) (nF (va_up de (6 * x + y) 0)) (upd t (6 * x + y) (-9)) (nI (min 999 (sv + (tray de (6 * x + y))))) (nI vt) (nI ps)] 38 [some (.ref (a 0)), some (.int (nI x)), some (.int (nI y))] [.int (iI z_3), .ref (a 0)]
  refine V_topi (show (iI z_3) = (nI (6 * x + y + 6)) from (mv_zn (by omega))) ?_
  refine V_callV (rest := []) X (c_X3_dry (Cl C) G a wh (va_up de (6 * x + y) 0) (upd t (6 * x + y) (-9)) (min 999 (sv + (tray de (6 * x + y)))) vt ps (6 * x + y + 6) (by first | assumption | omega)) mi_X3_dry kw_3_8 kw_3_10 kw_s_15 dX3_lift_38 [0] rfl (by decide) 0 0 rfl rfl rfl rfl rfl rfl (by decide) (Nat.le_of_ble_eq_true rfl) ⟨rfl, rfl⟩ (fun _ _ => ?_)
  show V C 0 0 [gMo G a (nF wh) (nF (va_up (va_up de (6 * x + y) 0) (6 * x + y + 6) 0)) (upd (upd t (6 * x + y) (-9)) (6 * x + y + 6) (-9)) (nI (min 999 (sv + (tray de (6 * x + y))))) (nI vt) (nI ps)] 41 [some (.ref (a 0)), some (.int (nI x)), some (.int (nI y))] []
  refine V_aload_n X dX3_lift_41 rfl ?_
  refine V_iload_n X dX3_lift_42 rfl ?_
  refine V_iload_n X dX3_lift_43 rfl ?_
  refine V_iconst X (nI 1) dX3_lift_44 (by decide) ?_
  refine V_iaddN X dX3_lift_45 ?_
  refine V_callSN (rest := [.ref (a 0)]) X (c_X11_placeAt (Cl C) G ((x : Nat) : Int) ((y + 1 : Nat) : Int) (by first | assumption | omega) (by first | assumption | omega)) mi_X11_placeAt kw_2_212 kw_2_84 dX3_lift_46 [] rfl (by decide) rfl rfl (by decide) (Nat.le_of_ble_eq_true rfl) ⟨rfl, rfl⟩ (fun u_ hu_6 => ?_)
  obtain ⟨z_5, rfl⟩ : ∃ z, z = u_ := ⟨_, rfl⟩
  have hu_6 : (0 ≤ ((x : Nat) : Int) ∧ ((x : Nat) : Int) < 6 ∧ 0 ≤ ((y + 1 : Nat) : Int) ∧ ((y + 1 : Nat) : Int) < 6 ∧ z_5 = 6 * ((x : Nat) : Int) + ((y + 1 : Nat) : Int)) ∨ ((((x : Nat) : Int) < 0 ∨ 6 ≤ ((x : Nat) : Int) ∨ ((y + 1 : Nat) : Int) < 0 ∨ 6 ≤ ((y + 1 : Nat) : Int)) ∧ z_5 = -9) := hu_6
  show V C 0 0 [gMo G a (nF wh) (nF (va_up (va_up de (6 * x + y) 0) (6 * x + y + 6) 0)) (upd (upd t (6 * x + y) (-9)) (6 * x + y + 6) (-9)) (nI (min 999 (sv + (tray de (6 * x + y))))) (nI vt) (nI ps)] 49 [some (.ref (a 0)), some (.int (nI x)), some (.int (nI y))] [.int (iI z_5), .ref (a 0)]
  refine V_topi (show (iI z_5) = (nI (6 * x + y + 1)) from (mv_zn (by omega))) ?_
  refine V_callV (rest := []) X (c_X3_dry (Cl C) G a wh (va_up (va_up de (6 * x + y) 0) (6 * x + y + 6) 0) (upd (upd t (6 * x + y) (-9)) (6 * x + y + 6) (-9)) (min 999 (sv + (tray de (6 * x + y)))) vt ps (6 * x + y + 1) (by first | assumption | omega)) mi_X3_dry kw_3_8 kw_3_10 kw_s_15 dX3_lift_49 [0] rfl (by decide) 0 0 rfl rfl rfl rfl rfl rfl (by decide) (Nat.le_of_ble_eq_true rfl) ⟨rfl, rfl⟩ (fun _ _ => ?_)
  show V C 0 0 [gMo G a (nF wh) (nF (va_up (va_up (va_up de (6 * x + y) 0) (6 * x + y + 6) 0) (6 * x + y + 1) 0)) (upd (upd (upd t (6 * x + y) (-9)) (6 * x + y + 6) (-9)) (6 * x + y + 1) (-9)) (nI (min 999 (sv + (tray de (6 * x + y))))) (nI vt) (nI ps)] 52 [some (.ref (a 0)), some (.int (nI x)), some (.int (nI y))] []
  refine V_aload_n X dX3_lift_52 rfl ?_
  refine V_iload_n X dX3_lift_53 rfl ?_
  refine V_iconst X (nI 1) dX3_lift_54 (by decide) ?_
  refine V_iaddN X dX3_lift_55 ?_
  refine V_iload_n X dX3_lift_56 rfl ?_
  refine V_iconst X (nI 1) dX3_lift_57 (by decide) ?_
  refine V_iaddN X dX3_lift_58 ?_
  refine V_callSN (rest := [.ref (a 0)]) X (c_X11_placeAt (Cl C) G ((x + 1 : Nat) : Int) ((y + 1 : Nat) : Int) (by first | assumption | omega) (by first | assumption | omega)) mi_X11_placeAt kw_2_212 kw_2_84 dX3_lift_59 [] rfl (by decide) rfl rfl (by decide) (Nat.le_of_ble_eq_true rfl) ⟨rfl, rfl⟩ (fun u_ hu_8 => ?_)
  obtain ⟨z_7, rfl⟩ : ∃ z, z = u_ := ⟨_, rfl⟩
  have hu_8 : (0 ≤ ((x + 1 : Nat) : Int) ∧ ((x + 1 : Nat) : Int) < 6 ∧ 0 ≤ ((y + 1 : Nat) : Int) ∧ ((y + 1 : Nat) : Int) < 6 ∧ z_7 = 6 * ((x + 1 : Nat) : Int) + ((y + 1 : Nat) : Int)) ∨ ((((x + 1 : Nat) : Int) < 0 ∨ 6 ≤ ((x + 1 : Nat) : Int) ∨ ((y + 1 : Nat) : Int) < 0 ∨ 6 ≤ ((y + 1 : Nat) : Int)) ∧ z_7 = -9) := hu_8
  show V C 0 0 [gMo G a (nF wh) (nF (va_up (va_up (va_up de (6 * x + y) 0) (6 * x + y + 6) 0) (6 * x + y + 1) 0)) (upd (upd (upd t (6 * x + y) (-9)) (6 * x + y + 6) (-9)) (6 * x + y + 1) (-9)) (nI (min 999 (sv + (tray de (6 * x + y))))) (nI vt) (nI ps)] 62 [some (.ref (a 0)), some (.int (nI x)), some (.int (nI y))] [.int (iI z_7), .ref (a 0)]
  refine V_topi (show (iI z_7) = (nI (6 * x + y + 7)) from (mv_zn (by omega))) ?_
  refine V_callV (rest := []) X (c_X3_dry (Cl C) G a wh (va_up (va_up (va_up de (6 * x + y) 0) (6 * x + y + 6) 0) (6 * x + y + 1) 0) (upd (upd (upd t (6 * x + y) (-9)) (6 * x + y + 6) (-9)) (6 * x + y + 1) (-9)) (min 999 (sv + (tray de (6 * x + y)))) vt ps (6 * x + y + 7) (by first | assumption | omega)) mi_X3_dry kw_3_8 kw_3_10 kw_s_15 dX3_lift_62 [0] rfl (by decide) 0 0 rfl rfl rfl rfl rfl rfl (by decide) (Nat.le_of_ble_eq_true rfl) ⟨rfl, rfl⟩ (fun _ _ => ?_)
  show V C 0 0 [gMo G a (nF wh) (nF (va_up (va_up (va_up (va_up de (6 * x + y) 0) (6 * x + y + 6) 0) (6 * x + y + 1) 0) (6 * x + y + 7) 0)) (upd (upd (upd (upd t (6 * x + y) (-9)) (6 * x + y + 6) (-9)) (6 * x + y + 1) (-9)) (6 * x + y + 7) (-9)) (nI (min 999 (sv + (tray de (6 * x + y))))) (nI vt) (nI ps)] 65 [some (.ref (a 0)), some (.int (nI x)), some (.int (nI y))] []
  exact V_vret X Y () trivial rfl rfl dX3_lift_65
set_option maxHeartbeats 4000000 in
set_option maxRecDepth 100000 in
theorem c_X3_isClear (l : Launch) (G : mvG) (a : Nat → Nat) (wh : Nat → Nat) (de : Nat → Nat) (t : Nat → Int32) (sv : Nat) (vt : Nat) (ps : Nat) (x : Nat) (y : Nat) (k : Nat) (hx : x + k ≤ 6) (hy : y + k ≤ 6) (hde : ∀ j, de j ≤ 9) : KQ l yX3_isClear cX3_isClear 6 (some .boolean) (2, 41) G [.ref (a 0), .int (nI x), .int (nI y), .int (nI k)] [gMo G a (nF wh) (nF de) t (nI sv) (nI vt) (nI ps)] (fun (zz : Nat) => some (.int (nI zz))) (fun (zz : Nat) => (zz = 1 ∧ clr de x y k) ∨ (zz = 0 ∧ ¬ clr de x y k)) (fun (zz : Nat) => [gMo G a (nF wh) (nF de) t (nI sv) (nI vt) (nI ps)]) := by
  refine KQ.mk (by decide +kernel) (fun _ _ => rfl) [some (.ref (a 0)), some (.int (nI x)), some (.int (nI y)), some (.int (nI k)), none, none] (Nat.le_of_ble_eq_true rfl) rfl (fun C X Y hC => ?_)
  subst hC
  refine V_iload_n X dX3_isClear_0 rfl ?_
  refine V_istore X dX3_isClear_1 (by decide) rfl ?_
  have L_3 : ∀ (fz_3 : Nat) (p : Nat) (hp : x ≤ p ∧ p ≤ x + k) (hc : ∀ i j, x ≤ i → i < p → y ≤ j → j < y + k → de (6 * i + j) = 0), (x + k - p) < fz_3 → V C 0 0 [gMo G a (nF wh) (nF de) t (nI sv) (nI vt) (nI ps)] 3 [some (.ref (a 0)), some (.int (nI x)), some (.int (nI y)), some (.int (nI k)), some (.int (nI p)), none] [] := by
    intro fz_3
    induction fz_3 with
    | zero => intro p hp hc hf_3; exact absurd hf_3 (Nat.not_lt_zero _)
    | succ fz_3 ih_3 =>
      intro p hp hc hf_3
      refine V_iload X dX3_isClear_3 rfl ?_
      refine V_iload_n X dX3_isClear_5 rfl ?_
      refine V_iload_n X dX3_isClear_6 rfl ?_
      refine V_iaddN X dX3_isClear_7 ?_
      refine V_icmp_geN X 50 dX3_isClear_8 (by decide) (by omega) (by omega) (fun c_1 => ?_) (fun c_1 => ?_)
      · refine V_iconst X (nI 1) dX3_isClear_50 (by decide) ?_
        exact V_iret X Y 1 (Or.inl ⟨rfl, fun i j h1 h2 h3 h4 => hc i j h1 (by omega) h3 h4⟩) rfl rfl rfl dX3_isClear_51
      · refine V_iload_n X dX3_isClear_11 rfl ?_
        refine V_istore X dX3_isClear_12 (by decide) rfl ?_
        have L_14 : ∀ (fz_14 : Nat) (q : Nat) (hq : y ≤ q ∧ q ≤ y + k) (hc2 : ∀ j, y ≤ j → j < q → de (6 * p + j) = 0), (y + k - q) < fz_14 → V C 0 0 [gMo G a (nF wh) (nF de) t (nI sv) (nI vt) (nI ps)] 14 [some (.ref (a 0)), some (.int (nI x)), some (.int (nI y)), some (.int (nI k)), some (.int (nI p)), some (.int (nI q))] [] := by
          intro fz_14
          induction fz_14 with
          | zero => intro q hq hc2 hf_14; exact absurd hf_14 (Nat.not_lt_zero _)
          | succ fz_14 ih_14 =>
            intro q hq hc2 hf_14
            refine V_iload X dX3_isClear_14 rfl ?_
            refine V_iload_n X dX3_isClear_16 rfl ?_
            refine V_iload_n X dX3_isClear_17 rfl ?_
            refine V_iaddN X dX3_isClear_18 ?_
            refine V_icmp_geN X 44 dX3_isClear_19 (by decide) (by omega) (by omega) (fun c_2 => ?_) (fun c_2 => ?_)
            · refine V_iincN X (c := 1) dX3_isClear_44 rfl (by decide) rfl ?_
              refine V_goto X 3 dX3_isClear_47 (by decide) ?_
              refine V_weak (lv' := [some (.ref (a 0)), some (.int (nI x)), some (.int (nI y)), some (.int (nI k)), some (.int (nI (p + 1))), none]) (And.intro rfl (And.intro rfl (And.intro rfl (And.intro rfl (And.intro rfl trivial))))) ?_
              exact ih_3 (p + 1) (by omega) (fun i j h1 h2 h3 h4 => by rcases Nat.lt_or_ge i p with z | z; exact hc i j h1 z h3 h4; rw [show i = p by omega]; exact hc2 j h3 (by omega)) (by omega)
            · refine V_aload_n X dX3_isClear_22 rfl ?_
              refine V_iload X dX3_isClear_23 rfl ?_
              refine V_iload X dX3_isClear_25 rfl ?_
              refine V_callSN (rest := [.ref (a 0)]) X (c_X11_placeAt (Cl C) G ((p : Nat) : Int) ((q : Nat) : Int) (by first | assumption | omega) (by first | assumption | omega)) mi_X11_placeAt kw_2_212 kw_2_84 dX3_isClear_27 [] rfl (by decide) rfl rfl (by decide) (Nat.le_of_ble_eq_true rfl) ⟨rfl, rfl⟩ (fun u_ hu_4 => ?_)
              obtain ⟨z_3, rfl⟩ : ∃ z, z = u_ := ⟨_, rfl⟩
              have hu_4 : (0 ≤ ((p : Nat) : Int) ∧ ((p : Nat) : Int) < 6 ∧ 0 ≤ ((q : Nat) : Int) ∧ ((q : Nat) : Int) < 6 ∧ z_3 = 6 * ((p : Nat) : Int) + ((q : Nat) : Int)) ∨ ((((p : Nat) : Int) < 0 ∨ 6 ≤ ((p : Nat) : Int) ∨ ((q : Nat) : Int) < 0 ∨ 6 ≤ ((q : Nat) : Int)) ∧ z_3 = -9) := hu_4
              show V C 0 0 [gMo G a (nF wh) (nF de) t (nI sv) (nI vt) (nI ps)] 30 [some (.ref (a 0)), some (.int (nI x)), some (.int (nI y)), some (.int (nI k)), some (.int (nI p)), some (.int (nI q))] [.int (iI z_3), .ref (a 0)]
              refine V_topi (show (iI z_3) = (nI (6 * p + q)) from (mv_zn (by omega))) ?_
              refine V_callV (rest := []) X (c_X3_deepAt (Cl C) G a wh de t sv vt ps (6 * p + q) (by first | assumption | omega)) mi_X3_deepAt kw_2_213 kw_2_146 kw_2_147 dX3_isClear_30 [0] rfl (by decide) 0 0 rfl rfl rfl rfl rfl rfl (by decide) (Nat.le_of_ble_eq_true rfl) ⟨rfl, rfl⟩ (fun _ _ => ?_)
              show V C 0 0 [gMo G a (nF wh) (nF de) t (nI sv) (nI vt) (nI ps)] 33 [some (.ref (a 0)), some (.int (nI x)), some (.int (nI y)), some (.int (nI k)), some (.int (nI p)), some (.int (nI q))] [.int (nI (de (6 * p + q)))]
              have hb9 := hde (6 * p + q)
              refine V_if_eqN X 38 dX3_isClear_33 (by decide) (by omega) (fun c_5 => ?_) (fun c_5 => ?_)
              · refine V_iincN X (c := 1) dX3_isClear_38 rfl (by decide) rfl ?_
                refine V_goto X 14 dX3_isClear_41 (by decide) ?_
                refine V_weak (lv' := [some (.ref (a 0)), some (.int (nI x)), some (.int (nI y)), some (.int (nI k)), some (.int (nI p)), some (.int (nI (q + 1)))]) (And.intro rfl (And.intro rfl (And.intro rfl (And.intro rfl (And.intro rfl (And.intro rfl trivial)))))) ?_
                exact ih_14 (q + 1) (by omega) (fun j h1 h2 => by rcases Nat.lt_or_ge j q with z | z; exact hc2 j h1 z; rw [show j = q by omega]; assumption) (by omega)
              · refine V_iconst X (nI 0) dX3_isClear_36 (by decide) ?_
                exact V_iret X Y 0 (Or.inr ⟨rfl, fun z => absurd (z p q (by omega) (by omega) (by omega) (by omega)) (by assumption)⟩) rfl rfl rfl dX3_isClear_37
        refine V_weak (lv' := [some (.ref (a 0)), some (.int (nI x)), some (.int (nI y)), some (.int (nI k)), some (.int (nI p)), some (.int (nI y))]) (And.intro rfl (And.intro rfl (And.intro rfl (And.intro rfl (And.intro rfl (And.intro rfl trivial)))))) ?_
        exact L_14 _ y (by omega) (fun j h1 h2 => absurd h2 (by omega)) (Nat.lt_succ_self _)
  refine V_weak (lv' := [some (.ref (a 0)), some (.int (nI x)), some (.int (nI y)), some (.int (nI k)), some (.int (nI x)), none]) (And.intro rfl (And.intro rfl (And.intro rfl (And.intro rfl (And.intro rfl trivial))))) ?_
  exact L_3 _ x (by omega) (fun i j h1 h2 => absurd h2 (by omega)) (Nat.lt_succ_self _)
set_option maxHeartbeats 4000000 in
set_option maxRecDepth 100000 in
theorem c_X1_add (l : Launch) (G : mvG) (a : Nat → Nat) (el : Nat → Nat) (fd : Nat → Nat) (m : Nat) (x : Nat) (y : Nat) (hm : m ≤ 6) : KQ l yX1_add cX1_add 3 (some .boolean) (0, 0) G [.ref (a 0), .int (nI x), .int (nI y)] [gFind G a (nF el) (nF fd) (nI m)] (fun (zz : Nat × (Nat → Nat) × (Nat → Nat) × Nat) => some (.int (nI zz.1))) (fun (zz : Nat × (Nat → Nat) × (Nat → Nat) × Nat) => (m < 6 ∧ zz.1 = 1 ∧ zz.2.1 = va_up el m x ∧ zz.2.2.1 = va_up fd m y ∧ zz.2.2.2 = m + 1) ∨ (m = 6 ∧ zz.1 = 0 ∧ zz.2.1 = el ∧ zz.2.2.1 = fd ∧ zz.2.2.2 = m)) (fun (zz : Nat × (Nat → Nat) × (Nat → Nat) × Nat) => [gFind G a (nF zz.2.1) (nF zz.2.2.1) (nI zz.2.2.2)]) := by
  refine KQ.mk (by decide +kernel) (fun _ _ => rfl) [some (.ref (a 0)), some (.int (nI x)), some (.int (nI y))] (Nat.le_of_ble_eq_true rfl) rfl (fun C X Y hC => ?_)
  subst hC
  refine V_aload_n X dX1_add_0 rfl ?_
  refine V_get X fl_X1_18 0 0 rfl rfl rfl dX1_add_1 ?_
  refine V_if_ltN X dX1_add_4 16 (by decide) (by omega) ?_
  refine V_aload_n X dX1_add_7 rfl ?_
  refine V_get X fl_X1_18 0 0 rfl rfl rfl dX1_add_8 ?_
  refine V_bipush X (nI 6) dX1_add_11 (by decide) ?_
  refine V_icmp_ltN X 18 dX1_add_13 (by decide) (by omega) (by decide) (fun c_2 => ?_) (fun c_2 => ?_)
  · refine V_aload_n X dX1_add_18 rfl ?_
    refine V_get X fl_X1_9 0 0 rfl rfl rfl dX1_add_19 ?_
    refine V_aload_n X dX1_add_22 rfl ?_
    refine V_get X fl_X1_18 0 0 rfl rfl rfl dX1_add_23 ?_
    refine V_iload_n X dX1_add_26 rfl ?_
    refine V_iastN X 0 1 rfl rfl (by omega) (by decide) dX1_add_27 ?_
    show V C 0 0 [gFind G a (nF (va_up el m x)) (nF fd) (nI m)] 28 [some (.ref (a 0)), some (.int (nI x)), some (.int (nI y))] []
    refine V_aload_n X dX1_add_28 rfl ?_
    refine V_get X fl_X1_15 0 0 rfl rfl rfl dX1_add_29 ?_
    refine V_aload_n X dX1_add_32 rfl ?_
    refine V_get X fl_X1_18 0 0 rfl rfl rfl dX1_add_33 ?_
    refine V_iload_n X dX1_add_36 rfl ?_
    refine V_iastN X 0 2 rfl rfl (by omega) (by decide) dX1_add_37 ?_
    show V C 0 0 [gFind G a (nF (va_up el m x)) (nF (va_up fd m y)) (nI m)] 38 [some (.ref (a 0)), some (.int (nI x)), some (.int (nI y))] []
    refine V_aload_n X dX1_add_38 rfl ?_
    refine V_dup X dX1_add_39 rfl ?_
    refine V_get X fl_X1_18 0 0 rfl rfl rfl dX1_add_40 ?_
    refine V_iconst X (nI 1) dX1_add_43 (by decide) ?_
    refine V_iaddN X dX1_add_44 ?_
    refine V_put X fl_X1_18 0 0 rfl rfl rfl rfl (Nat.le_of_ble_eq_true rfl) dX1_add_45 ?_
    show V C 0 0 [gFind G a (nF (va_up el m x)) (nF (va_up fd m y)) (nI (m + 1))] 48 [some (.ref (a 0)), some (.int (nI x)), some (.int (nI y))] []
    refine V_iconst X (nI 1) dX1_add_48 (by decide) ?_
    exact V_iret X Y ⟨1, va_up el m x, va_up fd m y, m + 1⟩ (show (m < 6 ∧ 1 = 1 ∧ (va_up el m x) = va_up el m x ∧ (va_up fd m y) = va_up fd m y ∧ (m + 1) = m + 1) ∨ (m = 6 ∧ 1 = 0 ∧ (va_up el m x) = el ∧ (va_up fd m y) = fd ∧ (m + 1) = m) from (by first | exact Or.inl ⟨by omega, rfl, rfl, rfl, rfl⟩ | exact Or.inr ⟨by omega, rfl, rfl, rfl, rfl⟩)) rfl rfl rfl dX1_add_49
  · refine V_iconst X (nI 0) dX1_add_16 (by decide) ?_
    exact V_iret X Y ⟨0, el, fd, m⟩ (show (m < 6 ∧ 0 = 1 ∧ el = va_up el m x ∧ fd = va_up fd m y ∧ m = m + 1) ∨ (m = 6 ∧ 0 = 0 ∧ el = el ∧ fd = fd ∧ m = m) from (by first | exact Or.inl ⟨by omega, rfl, rfl, rfl, rfl⟩ | exact Or.inr ⟨by omega, rfl, rfl, rfl, rfl⟩)) rfl rfl rfl dX1_add_17
set_option maxHeartbeats 4000000 in
set_option maxRecDepth 100000 in
theorem c_X1_fit (l : Launch) (G : mvG) (a : Nat → Nat) (el : Nat → Nat) (fd : Nat → Nat) (m : Nat) (b : Nat → Nat) (w : Nat → Nat) (v : Nat → Nat) (n : Nat) (k : Nat) (s : Nat) (hm : m ≤ 6) (hn : n ≤ 5) (hs : s < 32) (hel : ∀ j, j < m → el j < 32) (hfd : ∀ j, j < m → fd j ≤ 9) (hw : ∀ j, j < n → w j ≤ 9) : KQ l yX1_fit cX1_fit 4 (some .boolean) (2, 45) G [.ref (a 0), .ref (b 0), .int (nI s)] [gFind G a (nF el) (nF fd) (nI m), gRoll G b (nF w) (nF v) (nI n) (nI k)] (fun (zz : Nat) => some (.int (nI zz))) (fun (zz : Nat) => (zz = 1 ∧ fitF w n el fd m s) ∨ (zz = 0 ∧ ¬ fitF w n el fd m s)) (fun (zz : Nat) => [gFind G a (nF el) (nF fd) (nI m), gRoll G b (nF w) (nF v) (nI n) (nI k)]) := by
  refine KQ.mk (by decide +kernel) (fun _ _ => rfl) [some (.ref (a 0)), some (.ref (b 0)), some (.int (nI s)), none] (Nat.le_of_ble_eq_true rfl) rfl (fun C X Y hC => ?_)
  subst hC
  refine V_iconst X (nI 0) dX1_fit_0 (by decide) ?_
  refine V_istore_n X dX1_fit_1 (by decide) rfl ?_
  have L_2 : ∀ (fz_2 : Nat) (q : Nat) (hq : q ≤ m) (hf : ∀ j, j < q → min 9 (bSum w (s &&& (el j ^^^ 31)) n) = fd j), (m - q) < fz_2 → V C 0 0 [gFind G a (nF el) (nF fd) (nI m), gRoll G b (nF w) (nF v) (nI n) (nI k)] 2 [some (.ref (a 0)), some (.ref (b 0)), some (.int (nI s)), some (.int (nI q))] [] := by
    intro fz_2
    induction fz_2 with
    | zero => intro q hq hf hf_2; exact absurd hf_2 (Nat.not_lt_zero _)
    | succ fz_2 ih_2 =>
      intro q hq hf hf_2
      refine V_iload_n X dX1_fit_2 rfl ?_
      refine V_aload_n X dX1_fit_3 rfl ?_
      refine V_get X fl_X1_18 0 0 rfl rfl rfl dX1_fit_4 ?_
      refine V_icmp_geN X 52 dX1_fit_7 (by decide) (by omega) (by omega) (fun c_1 => ?_) (fun c_1 => ?_)
      · refine V_iconst X (nI 1) dX1_fit_52 (by decide) ?_
        exact V_iret X Y 1 (Or.inl ⟨rfl, fun j h => hf j (by omega)⟩) rfl rfl rfl dX1_fit_53
      · refine V_iload_n X dX1_fit_10 rfl ?_
        refine V_bipush X (nI 6) dX1_fit_11 (by decide) ?_
        refine V_icmp_geN X 52 dX1_fit_13 (by decide) (by omega) (by decide) (fun c_2 => ?_) (fun c_2 => ?_)
        · exfalso; omega
        · refine V_bipush X (nI 9) dX1_fit_16 (by decide) ?_
          refine V_aload_n X dX1_fit_18 rfl ?_
          refine V_iload_n X dX1_fit_19 rfl ?_
          refine V_aload_n X dX1_fit_20 rfl ?_
          refine V_get X fl_X1_9 0 0 rfl rfl rfl dX1_fit_21 ?_
          refine V_iload_n X dX1_fit_24 rfl ?_
          refine V_ialdN X 0 1 rfl rfl (by omega) (by decide) dX1_fit_25 ?_
          refine V_iconst X (-1) dX1_fit_26 (by decide) ?_
          refine V_ixor X dX1_fit_27 ?_
          refine V_iand X dX1_fit_28 ?_
          refine V_topi (show ((nI s) &&& ((nI (el q)) ^^^ (-1))) = (nI (s &&& (el q ^^^ 31))) from (mv_nand s hs _ (hel q (by omega)))) ?_
          refine V_callV (rest := [.int (nI 9)]) X (c_X7_weightTogether (Cl C) G b w v n k (s &&& (el q ^^^ 31)) (by first | assumption | omega) (Nat.lt_of_le_of_lt Nat.and_le_left hs)) mi_X7_weightTogether kw_3_136 kw_3_137 kw_3_138 dX1_fit_29 [1] rfl (by decide) 1 0 rfl rfl rfl rfl rfl rfl (by decide) (Nat.le_of_ble_eq_true rfl) ⟨rfl, rfl⟩ (fun _ _ => ?_)
          show V C 0 0 [gFind G a (nF el) (nF fd) (nI m), gRoll G b (nF w) (nF v) (nI n) (nI k)] 32 [some (.ref (a 0)), some (.ref (b 0)), some (.int (nI s)), some (.int (nI q))] [.int (nI (bSum w (s &&& (el q ^^^ 31)) n)), .int (nI 9)]
          have hbs := bSum_le (s &&& (el q ^^^ 31)) n hw
          have hfq := hfd q (by omega)
          refine V_mminN X kw_3_140 dX1_fit_32 (by decide) (Nat.le_of_ble_eq_true rfl) ⟨rfl, rfl⟩ (by omega) (by omega) ?_
          refine V_aload_n X dX1_fit_35 rfl ?_
          refine V_get X fl_X1_15 0 0 rfl rfl rfl dX1_fit_36 ?_
          refine V_iload_n X dX1_fit_39 rfl ?_
          refine V_ialdN X 0 2 rfl rfl (by omega) (by decide) dX1_fit_40 ?_
          refine V_icmp_eqN X 46 dX1_fit_41 (by decide) (by first | omega | exact Nat.lt_of_le_of_lt Nat.and_le_left (by omega)) (by omega) (fun c_3 => ?_) (fun c_3 => ?_)
          · refine V_iincN X (c := 1) dX1_fit_46 rfl (by decide) rfl ?_
            refine V_goto X 2 dX1_fit_49 (by decide) ?_
            refine V_weak (lv' := [some (.ref (a 0)), some (.ref (b 0)), some (.int (nI s)), some (.int (nI (q + 1)))]) (And.intro rfl (And.intro rfl (And.intro rfl (And.intro rfl trivial)))) ?_
            exact ih_2 (q + 1) (by omega) (fun j h => by rcases Nat.lt_or_ge j q with z | z; exact hf j z; rw [show j = q by omega]; assumption) (by omega)
          · refine V_iconst X (nI 0) dX1_fit_44 (by decide) ?_
            exact V_iret X Y 0 (Or.inr ⟨rfl, fun z => absurd (z q (by omega)) (by assumption)⟩) rfl rfl rfl dX1_fit_45
  refine V_weak (lv' := [some (.ref (a 0)), some (.ref (b 0)), some (.int (nI s)), some (.int (nI 0))]) (And.intro rfl (And.intro rfl (And.intro rfl (And.intro rfl trivial)))) ?_
  exact L_2 _ 0 (by omega) (fun j h => absurd h (by omega)) (Nat.lt_succ_self _)
