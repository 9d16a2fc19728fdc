-- ===== rows over integers, renaming rows =====
def iI (n : Int) : Int32 := Int32.ofInt n
theorem iI_n (n : Nat) : iI (n : Int) = nI n := rfl
theorem nI_i (n : Nat) : nI n = iI (n : Int) := rfl
theorem iI_add (a b : Int) : iI a + iI b = iI (a + b) := (Int32.ofInt_add a b).symm
theorem iI_sub (a b : Int) : iI a - iI b = iI (a - b) := (Int32.ofInt_sub a b).symm
theorem iI_mul (a b : Int) : iI a * iI b = iI (a * b) := (Int32.ofInt_mul a b).symm
theorem iI_toInt {a : Int} (h1 : -2147483648 ≤ a) (h2 : a < 2147483648) : (iI a).toInt = a := Int32.toInt_ofInt_of_le (by simpa using h1) (by simpa using h2)
theorem iI_of (x : Int32) : x = iI x.toInt := (Int32.ofInt_toInt x).symm
theorem mv_nat {p : Int32} (h : 0 ≤ p.toInt) : p = nI p.toInt.toNat := by
  have h2 : p = iI p.toInt := iI_of p
  rw [← iI_n, Int.toNat_of_nonneg h]
  exact h2
theorem mv_tlt (a b : Int32) : a < b ↔ a.toInt < b.toInt := Int32.lt_iff_toInt_lt
theorem mv_tle (a b : Int32) : a ≤ b ↔ a.toInt ≤ b.toInt := Int32.le_iff_toInt_le
theorem mv_teq (a b : Int32) : a = b ↔ a.toInt = b.toInt := Int32.toInt_inj.symm
theorem mv_t0 : (0 : Int32).toInt = 0 := rfl
def sF (w : Nat → Int) : Nat → Int32 := fun j => iI (w j)
theorem sF_up (w : Nat → Int) (k : Nat) (v : Int) : upd (sF w) k (iI v) = sF (va_up w k v) := funext fun j => by
  simp only [upd, sF, va_up]
  split <;> rfl
section VINT
variable {C : Cx} {cc : ByteArray} {own : String} {nL : Nat} {R : Room} {G : mvG} {kc ks : Nat} {gs : List va_W} {pc : Nat} {lv : List (Option Value)} {st : List Value}
theorem V_top {v v' : Value} (e : v = v') (k : V C kc ks gs pc lv (v' :: st)) : V C kc ks gs pc lv (v :: st) := by rw [e]; exact k
theorem V_topi {x y : Int32} (e : x = y) (k : V C kc ks gs pc lv (.int y :: st)) : V C kc ks gs pc lv (.int x :: st) := by rw [e]; exact k
theorem V_topl {x y : Int64} (e : x = y) (k : V C kc ks gs pc lv (.long y :: st)) : V C kc ks gs pc lv (.long x :: st) := by rw [e]; exact k
theorem V_loc {x y : Int32} (i : Nat) (hi : lv[i]? = some (some (.int x))) (e : x = y) (k : V C kc ks gs pc (lv.set i (some (.int y))) st) : V C kc ks gs pc lv st := by
  have : lv.set i (some (.int y)) = lv := by
    subst e
    apply List.ext_getElem?
    intro j
    rw [List.getElem?_set]
    split
    · rename_i h
      subst h
      split
      · exact hi.symm
      · rename_i h
        rw [List.getElem?_eq_none (by omega)]
    · rfl
  rwa [this] at k
theorem V_if_ltI {x : Int32} {i : Int} {o : Int} (X : OK C cc own nL R G) (tgt : Nat) (d : decode cc pc = .ok (.ifCond .lt o, 3)) (ht : (pc : Int) + o = (tgt : Int)) (hx : x.toInt = i) (kt : i < 0 → V C kc ks gs tgt lv st) (kf : 0 ≤ i → V C kc ks gs (pc + 3) lv st) : V C kc ks gs pc lv (.int x :: st) := V_if_lt X tgt d ht (fun c => kt (by rw [mv_tlt, mv_t0, hx] at c; exact c)) (fun c => kf (by rw [mv_tlt, mv_t0, hx] at c; omega))
theorem V_if_geI {x : Int32} {i : Int} {o : Int} (X : OK C cc own nL R G) (tgt : Nat) (d : decode cc pc = .ok (.ifCond .ge o, 3)) (ht : (pc : Int) + o = (tgt : Int)) (hx : x.toInt = i) (kt : 0 ≤ i → V C kc ks gs tgt lv st) (kf : i < 0 → V C kc ks gs (pc + 3) lv st) : V C kc ks gs pc lv (.int x :: st) := V_if_ge X tgt d ht (fun c => kt (by rw [mv_tle, mv_t0, hx] at c; exact c)) (fun c => kf (by rw [mv_tle, mv_t0, hx] at c; omega))
theorem V_if_gtI {x : Int32} {i : Int} {o : Int} (X : OK C cc own nL R G) (tgt : Nat) (d : decode cc pc = .ok (.ifCond .gt o, 3)) (ht : (pc : Int) + o = (tgt : Int)) (hx : x.toInt = i) (kt : 0 < i → V C kc ks gs tgt lv st) (kf : i ≤ 0 → V C kc ks gs (pc + 3) lv st) : V C kc ks gs pc lv (.int x :: st) := V_if_gt X tgt d ht (fun c => kt (by rw [mv_tlt, mv_t0, hx] at c; exact c)) (fun c => kf (by rw [mv_tlt, mv_t0, hx] at c; omega))
theorem V_if_leI {x : Int32} {i : Int} {o : Int} (X : OK C cc own nL R G) (tgt : Nat) (d : decode cc pc = .ok (.ifCond .le o, 3)) (ht : (pc : Int) + o = (tgt : Int)) (hx : x.toInt = i) (kt : i ≤ 0 → V C kc ks gs tgt lv st) (kf : 0 < i → V C kc ks gs (pc + 3) lv st) : V C kc ks gs pc lv (.int x :: st) := V_if_le X tgt d ht (fun c => kt (by rw [mv_tle, mv_t0, hx] at c; exact c)) (fun c => kf (by rw [mv_tle, mv_t0, hx] at c; omega))
theorem V_if_eqI {x : Int32} {i : Int} {o : Int} (X : OK C cc own nL R G) (tgt : Nat) (d : decode cc pc = .ok (.ifCond .eq o, 3)) (ht : (pc : Int) + o = (tgt : Int)) (hx : x.toInt = i) (kt : i = 0 → V C kc ks gs tgt lv st) (kf : ¬ i = 0 → V C kc ks gs (pc + 3) lv st) : V C kc ks gs pc lv (.int x :: st) := V_if_eq X tgt d ht (fun c => kt (by rw [mv_teq, mv_t0, hx] at c; exact c)) (fun c => kf (by rw [mv_teq, mv_t0, hx] at c; exact c))
theorem V_if_neI {x : Int32} {i : Int} {o : Int} (X : OK C cc own nL R G) (tgt : Nat) (d : decode cc pc = .ok (.ifCond .ne o, 3)) (ht : (pc : Int) + o = (tgt : Int)) (hx : x.toInt = i) (kt : ¬ i = 0 → V C kc ks gs tgt lv st) (kf : i = 0 → V C kc ks gs (pc + 3) lv st) : V C kc ks gs pc lv (.int x :: st) := V_if_ne X tgt d ht (fun c => kt (by rw [mv_teq, mv_t0, hx] at c; exact c)) (fun c => kf (by rw [mv_teq, mv_t0, hx] at c; exact c))
theorem V_icmp_ltI {x y : Int32} {i j : Int} {o : Int} (X : OK C cc own nL R G) (tgt : Nat) (d : decode cc pc = .ok (.if_icmp .lt o, 3)) (ht : (pc : Int) + o = (tgt : Int)) (hx : x.toInt = i) (hy : y.toInt = j) (kt : i < j → V C kc ks gs tgt lv st) (kf : j ≤ i → V C kc ks gs (pc + 3) lv st) : V C kc ks gs pc lv (.int y :: .int x :: st) := V_icmp_lt X tgt d ht (fun c => kt (by rw [mv_tlt, hx, hy] at c; exact c)) (fun c => kf (by rw [mv_tlt, hx, hy] at c; omega))
theorem V_icmp_geI {x y : Int32} {i j : Int} {o : Int} (X : OK C cc own nL R G) (tgt : Nat) (d : decode cc pc = .ok (.if_icmp .ge o, 3)) (ht : (pc : Int) + o = (tgt : Int)) (hx : x.toInt = i) (hy : y.toInt = j) (kt : j ≤ i → V C kc ks gs tgt lv st) (kf : i < j → V C kc ks gs (pc + 3) lv st) : V C kc ks gs pc lv (.int y :: .int x :: st) := V_icmp_ge X tgt d ht (fun c => kt (by rw [mv_tle, hx, hy] at c; exact c)) (fun c => kf (by rw [mv_tle, hx, hy] at c; omega))
theorem V_icmp_gtI {x y : Int32} {i j : Int} {o : Int} (X : OK C cc own nL R G) (tgt : Nat) (d : decode cc pc = .ok (.if_icmp .gt o, 3)) (ht : (pc : Int) + o = (tgt : Int)) (hx : x.toInt = i) (hy : y.toInt = j) (kt : j < i → V C kc ks gs tgt lv st) (kf : i ≤ j → V C kc ks gs (pc + 3) lv st) : V C kc ks gs pc lv (.int y :: .int x :: st) := V_icmp_gt X tgt d ht (fun c => kt (by rw [mv_tlt, hx, hy] at c; exact c)) (fun c => kf (by rw [mv_tlt, hx, hy] at c; omega))
theorem V_icmp_leI {x y : Int32} {i j : Int} {o : Int} (X : OK C cc own nL R G) (tgt : Nat) (d : decode cc pc = .ok (.if_icmp .le o, 3)) (ht : (pc : Int) + o = (tgt : Int)) (hx : x.toInt = i) (hy : y.toInt = j) (kt : i ≤ j → V C kc ks gs tgt lv st) (kf : j < i → V C kc ks gs (pc + 3) lv st) : V C kc ks gs pc lv (.int y :: .int x :: st) := V_icmp_le X tgt d ht (fun c => kt (by rw [mv_tle, hx, hy] at c; exact c)) (fun c => kf (by rw [mv_tle, hx, hy] at c; omega))
theorem V_icmp_eqI {x y : Int32} {i j : Int} {o : Int} (X : OK C cc own nL R G) (tgt : Nat) (d : decode cc pc = .ok (.if_icmp .eq o, 3)) (ht : (pc : Int) + o = (tgt : Int)) (hx : x.toInt = i) (hy : y.toInt = j) (kt : i = j → V C kc ks gs tgt lv st) (kf : ¬ i = j → V C kc ks gs (pc + 3) lv st) : V C kc ks gs pc lv (.int y :: .int x :: st) := V_icmp_eq X tgt d ht (fun c => kt (by rw [mv_teq, hx, hy] at c; exact c)) (fun c => kf (by rw [mv_teq, hx, hy] at c; exact c))
theorem V_icmp_neI {x y : Int32} {i j : Int} {o : Int} (X : OK C cc own nL R G) (tgt : Nat) (d : decode cc pc = .ok (.if_icmp .ne o, 3)) (ht : (pc : Int) + o = (tgt : Int)) (hx : x.toInt = i) (hy : y.toInt = j) (kt : ¬ i = j → V C kc ks gs tgt lv st) (kf : i = j → V C kc ks gs (pc + 3) lv st) : V C kc ks gs pc lv (.int y :: .int x :: st) := V_icmp_ne X tgt d ht (fun c => kt (by rw [mv_teq, hx, hy] at c; exact c)) (fun c => kf (by rw [mv_teq, hx, hy] at c; exact c))
theorem V_iaddS {a b : Int} (X : OK C cc own nL R G) (d : decode cc pc = .ok (.iadd, 1)) (k : V C kc ks gs (pc + 1) lv (.int (iI (a + b)) :: st)) : V C kc ks gs pc lv (.int (iI b) :: .int (iI a) :: st) := V_iadd X d (by rw [iI_add]; exact k)
theorem V_isubS {a b : Int} (X : OK C cc own nL R G) (d : decode cc pc = .ok (.isub, 1)) (k : V C kc ks gs (pc + 1) lv (.int (iI (a - b)) :: st)) : V C kc ks gs pc lv (.int (iI b) :: .int (iI a) :: st) := V_isub X d (by rw [iI_sub]; exact k)
theorem V_imulS {a b : Int} (X : OK C cc own nL R G) (d : decode cc pc = .ok (.imul, 1)) (k : V C kc ks gs (pc + 1) lv (.int (iI (a * b)) :: st)) : V C kc ks gs pc lv (.int (iI b) :: .int (iI a) :: st) := V_imul X d (by rw [iI_mul]; exact k)
theorem V_iincS {i : Nat} {e c : Int} (X : OK C cc own nL R G) (d : decode cc pc = .ok (.iinc i c, 3)) (hi : lv[i]? = some (some (.int (iI e)))) (hn : i < nL) (hok : lvOk lv i = true) (k : V C kc ks gs (pc + 3) (lv.set i (some (.int (iI (e + c))))) st) : V C kc ks gs pc lv st := V_iinc X (iI (e + c)) d hi (iI_add e c) hn hok k
theorem V_tableOutI {df lo hi : Int} {offs : Array Int} {len : Nat} {x : Int32} {i : Int} (X : OK C cc own nL R G) (tgt : Nat) (d : decode cc pc = .ok (.tableswitch df lo hi offs, len)) (hx : x.toInt = i) (h : i < lo ∨ hi < i) (ht : (pc : Int) + df = (tgt : Int)) (k : V C kc ks gs tgt lv st) : V C kc ks gs pc lv (.int x :: st) := V_tableOut X tgt d (by rw [hx]; exact h) ht k
theorem V_tableInI {df lo hi : Int} {offs : Array Int} {len : Nat} {x : Int32} {i : Int} {off : Int} (X : OK C cc own nL R G) (tgt : Nat) (d : decode cc pc = .ok (.tableswitch df lo hi offs, len)) (m : Int) (hx : x.toInt = i) (hm : i = m) (h1 : (decide (m < lo) || decide (hi < m)) = false) (ho : offs[(m - lo).toNat]? = some off) (ht : (pc : Int) + off = (tgt : Int)) (k : V C kc ks gs tgt lv st) : V C kc ks gs pc lv (.int x :: st) := by
  have e : x.toInt = m := hx.trans hm
  simp only [Bool.or_eq_false_iff, decide_eq_false_iff_not] at h1
  exact V_tableIn X tgt d (by rw [e]; exact h1.1) (by rw [e]; exact h1.2) (by rw [e]; exact ho) ht k
theorem mv_sn {a : Int} (h : 0 ≤ a) : iI a = nI a.toNat := by rw [← iI_n, Int.toNat_of_nonneg h]
theorem mv_si {a b : Int} (h : a = b) : some (Value.int (iI a)) = some (Value.int (iI b)) := by rw [h]
theorem mv_rL {a b : Nat} (h : a = b) : some (Value.long (lN a)) = some (Value.long (lN b)) := by rw [h]
theorem mv_i2c {a : Nat} (h : a < 65536) : ((nI a).toUInt32 % 65536).toInt32 = nI a := by
  rw [pk_char, pk_tn (by omega)]
  rw [Nat.mod_eq_of_lt h]
theorem V_two {x x' y y' : Int32} (e1 : x = x') (e2 : y = y') (k : V C kc ks gs pc lv (.int y' :: .int x' :: st)) : V C kc ks gs pc lv (.int y :: .int x :: st) := by rw [e1, e2]; exact k
theorem V_mabsS {a : Int} {idx rf rl : Nat} (X : OK C cc own nL { frames := rf, locals := rl } G) (hlk : Cond.methodLink own idx yJ9_abs_0f7a4 ∈ TB) (d : decode cc pc = .ok (.invokestatic idx, 3)) (hf : 1 ≤ rf) (hl0 : (st.map fun v => v.category).sum + 13 ≤ rl) (h0 : kc = 0 ∧ ks = 0) (h1 : -2147483648 < a) (h2 : a < 2147483648) (k : V C kc ks gs (pc + 3) lv (.int (nI a.natAbs) :: st)) : V C kc ks gs pc lv (.int (iI a) :: st) := V_mabs X hlk d hf hl0 h0 (by
  have e : (if 0 ≤ iI a then iI a else 0 - iI a) = nI a.natAbs := by
    have ha := iI_toInt (a := a) (by omega) h2
    split
    · rename_i h
      rw [mv_tle, mv_t0, ha] at h
      rw [mv_sn h]
      congr 1
      omega
    · rename_i h
      rw [mv_tle, mv_t0, ha] at h
      rw [show (0 : Int32) = iI 0 from rfl, iI_sub, mv_sn (show 0 ≤ 0 - a by omega)]
      congr 1
      omega
  rw [e]
  exact k)
theorem V_perm {gs' : List va_W} (h : gs'.flatten.Perm gs.flatten) (k : V C kc ks gs' pc lv st) : V C kc ks gs pc lv st := fun H locs ls hP hD hS hl => by
  refine k H locs ls (va_P_mem.mpr fun q hq => va_P_mem.mp hP q (h.mem_iff.mp hq)) ?_ hS hl
  obtain ⟨h1, h2⟩ := va_D_mem.mp hD
  exact va_D_mem.mpr ⟨h.symm.pairwise h1 (fun z e => z e.symm), fun q hq => h2 q (h.mem_iff.mp hq)⟩
theorem V_laddN {a b : Nat} (X : OK C cc own nL R G) (d : decode cc pc = .ok (.ladd, 1)) (k : V C kc ks gs (pc + 1) lv (.long (lN (a + b)) :: st)) : V C kc ks gs pc lv (.long (lN b) :: .long (lN a) :: st) := V_ladd X d (by rw [lN_add]; exact k)
theorem V_lmulN {a b : Nat} (X : OK C cc own nL R G) (d : decode cc pc = .ok (.lmul, 1)) (k : V C kc ks gs (pc + 1) lv (.long (lN (a * b)) :: st)) : V C kc ks gs pc lv (.long (lN b) :: .long (lN a) :: st) := V_lmul X d (by rw [lN_mul]; exact k)
theorem lN_ne0 {b : Nat} (h0 : 0 < b) (hb : b < 2 ^ 63) : ¬ lN b = 0 := fun h => by
  have := (pk_lEQ hb (b := 0) (by decide)).mp h
  omega
theorem V_ldivN {a b : Nat} (X : OK C cc own nL R G) (d : decode cc pc = .ok (.ldiv, 1)) (ha : a < 2 ^ 63) (h0 : 0 < b) (hb : b < 2 ^ 63) (k : V C kc ks gs (pc + 1) lv (.long (lN (a / b)) :: st)) : V C kc ks gs pc lv (.long (lN b) :: .long (lN a) :: st) := V_ldiv X d (lN_ne0 h0 hb) (by rw [pk_lDiv ha h0 hb]; exact k)
theorem V_lremN {a b : Nat} (X : OK C cc own nL R G) (d : decode cc pc = .ok (.lrem, 1)) (ha : a < 2 ^ 63) (h0 : 0 < b) (hb : b < 2 ^ 63) (k : V C kc ks gs (pc + 1) lv (.long (lN (a % b)) :: st)) : V C kc ks gs pc lv (.long (lN b) :: .long (lN a) :: st) := V_lrem X d (lN_ne0 h0 hb) (by rw [pk_lRem ha h0 hb]; exact k)
theorem lg_cmpN {a b : Nat} (ha : a < 2 ^ 63) (hb : b < 2 ^ 63) : (lg_cmp (lN a) (lN b)).toInt = if b < a then 1 else if a = b then 0 else -1 := by
  unfold lg_cmp
  simp only [gt_iff_lt, pk_lLT hb ha, pk_lEQ ha hb]
  split
  · rfl
  · split <;> rfl
theorem V_lcmp_eqN {a b : Nat} {o : Int} (X : OK C cc own nL R G) (tgt : Nat) (d : decode cc pc = .ok (.lcmp, 1)) (d2 : decode cc (pc + 1) = .ok (.ifCond .eq o, 3)) (ht : ((pc + 1 : Nat) : Int) + o = (tgt : Int)) (ha : a < 2 ^ 63) (hb : b < 2 ^ 63) (kt : a = b → V C kc ks gs tgt lv st) (kf : ¬ a = b → V C kc ks gs (pc + 1 + 3) lv st) : V C kc ks gs pc lv (.long (lN b) :: .long (lN a) :: st) := V_lcmp X d (V_if_eqI X tgt d2 ht (lg_cmpN ha hb) (fun c => kt (by omega)) (fun c => kf (by intro z; subst z; simp at c)))
theorem V_lcmp_geN {a b : Nat} {o : Int} (X : OK C cc own nL R G) (tgt : Nat) (d : decode cc pc = .ok (.lcmp, 1)) (d2 : decode cc (pc + 1) = .ok (.ifCond .ge o, 3)) (ht : ((pc + 1 : Nat) : Int) + o = (tgt : Int)) (ha : a < 2 ^ 63) (hb : b < 2 ^ 63) (kt : b ≤ a → V C kc ks gs tgt lv st) (kf : a < b → V C kc ks gs (pc + 1 + 3) lv st) : V C kc ks gs pc lv (.long (lN b) :: .long (lN a) :: st) := V_lcmp X d (V_if_geI X tgt d2 ht (lg_cmpN ha hb) (fun c => kt (by omega)) (fun c => kf (by omega)))
theorem V_zastR {g : va_W} {a n e v : Nat} {f : Nat → Int32} (X : OK C cc own nL R G) (i j : Nat) (hg : gs[i]? = some g) (hj : g[j]? = some (a, .inl (G.2.1 1, n, .inl f))) (he : e < n) (hn : n < 1000) (hv : v ≤ 1) (d : decode cc pc = .ok (.bastore, 1)) (k : V C kc ks (gs.set i (g.set j (a, .inl (G.2.1 1, n, .inl (upd f e (nI v)))))) (pc + 1) lv st) : V C kc ks gs pc lv (.int (nI v) :: .int (nI e) :: .ref a :: st) :=
  V_zast X i j hg hj (vp_in_nI he (by omega)) (nI v) (mv_nzV hv) d (by rw [nI_clamp (by omega)]; exact k)
theorem V_ialdS {g : va_W} {a n e : Nat} {w : Nat → Int} (X : OK C cc own nL R G) (i j : Nat) (hg : gs[i]? = some g) (hj : g[j]? = some (a, .inl (G.2.1 0, n, .inl (sF w)))) (he : e < n) (hn : n < 1000) (d : decode cc pc = .ok (.iaload, 1)) (k : V C kc ks gs (pc + 1) lv (.int (iI (w e)) :: st)) : V C kc ks gs pc lv (.int (nI e) :: .ref a :: st) :=
  V_iald X i j hg hj (vp_in_nI he (by omega)) d (by rw [nI_clamp (by omega)]; exact k)
theorem V_iastS {g : va_W} {a n e : Nat} {v : Int} {w : Nat → Int} (X : OK C cc own nL R G) (i j : Nat) (hg : gs[i]? = some g) (hj : g[j]? = some (a, .inl (G.2.1 0, n, .inl (sF w)))) (he : e < n) (hn : n < 1000) (d : decode cc pc = .ok (.iastore, 1)) (k : V C kc ks (gs.set i (g.set j (a, .inl (G.2.1 0, n, .inl (sF (va_up w e v)))))) (pc + 1) lv st) : V C kc ks gs pc lv (.int (iI v) :: .int (nI e) :: .ref a :: st) :=
  V_iast X i j hg hj (vp_in_nI he (by omega)) d (by rw [nI_clamp (by omega), sF_up]; exact k)
end VINT
abbrev MoT : Type := (Nat → Nat) × (Nat → Nat) × (Nat → Int32) × Nat × Nat × Nat
def gMoT (G : mvG) (a : Nat → Nat) (M : MoT) : va_W := gMo G a (nF M.1) (nF M.2.1) M.2.2.1 (nI M.2.2.2.1) (nI M.2.2.2.2.1) (nI M.2.2.2.2.2)
def gArr (G : mvG) (a n : Nat) (f : Nat → Int32) : va_W := [(a, .inl (G.2.1 0, n, .inl f))]
def gArrZ (G : mvG) (a n : Nat) (f : Nat → Int32) : va_W := [(a, .inl (G.2.1 1, n, .inl f))]
theorem set_perm {α : Type} : ∀ (g : List α) (j : Nat) (x : α), j < g.length → (g.set j x).Perm (x :: g.eraseIdx j)
  | [], j, x, h => by simp at h
  | a :: r, 0, x, h => by simp
  | a :: r, j + 1, x, h => by
    have := set_perm r j x (by simpa using h)
    simp only [List.set_cons_succ, List.eraseIdx_cons_succ]
    exact (this.cons a).trans (List.Perm.swap x a _)
theorem pull_perm : ∀ (gs : List va_W) (i j : Nat) (g : va_W) (q' : Nat × va_E), gs[i]? = some g → j < g.length → ((gs.set i (g.eraseIdx j)) ++ [[q']]).flatten.Perm (gs.set i (g.set j q')).flatten
  | [], i, j, g, q', h, _ => by simp at h
  | x :: r, 0, j, g, q', h, hj => by
    simp at h
    subst h
    simp only [List.set_cons_zero, List.cons_append, List.flatten_cons, List.flatten_append, List.flatten_nil, List.append_nil]
    have h1 := (set_perm x j q' hj).symm
    have h2 : (x.eraseIdx j ++ (r.flatten ++ [q'])).Perm (q' :: (x.eraseIdx j ++ r.flatten)) := by
      rw [← List.append_assoc]
      exact List.perm_append_singleton q' _
    exact h2.trans (h1.append_right r.flatten)
  | x :: r, i + 1, j, g, q', h, hj => by
    have := pull_perm r i j g q' (by simpa using h) hj
    simp only [List.set_cons_succ, List.cons_append, List.flatten_cons]
    exact this.append_left x
theorem gput_last (A : List va_W) (w w' : va_W) : gput (A ++ [w]) [A.length] [w'] = A ++ [w'] := by
  simp [gput, List.set_append]
