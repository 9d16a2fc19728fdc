-- ===== rows over integers, renaming rows =====
def iI (n : Int) : Int32 := Int32.ofInt n
theorem iI_n (n : Nat) : iI (n : Int) = nI n := rfl
theorem nI_i (n : Nat) : nI n = iI (n : Int) := rfl
theorem iI_add (a b : Int) : iI a + iI b = iI (a + b) := (Int32.ofInt_add a b).symm
theorem iI_sub (a b : Int) : iI a - iI b = iI (a - b) := (Int32.ofInt_sub a b).symm
theorem iI_mul (a b : Int) : iI a * iI b = iI (a * b) := (Int32.ofInt_mul a b).symm
theorem iI_toInt {a : Int} (h1 : -2147483648 ≤ a) (h2 : a < 2147483648) : (iI a).toInt = a := Int32.toInt_ofInt_of_le (by simpa using h1) (by simpa using h2)
theorem iI_of (x : Int32) : x = iI x.toInt := (Int32.ofInt_toInt x).symm
theorem mv_nat {p : Int32} (h : 0 ≤ p.toInt) : p = nI p.toInt.toNat := by
  have h2 : p = iI p.toInt := iI_of p
  rw [← iI_n, Int.toNat_of_nonneg h]
  exact h2
theorem mv_tlt (a b : Int32) : a < b ↔ a.toInt < b.toInt := Int32.lt_iff_toInt_lt
theorem mv_tle (a b : Int32) : a ≤ b ↔ a.toInt ≤ b.toInt := Int32.le_iff_toInt_le
theorem mv_teq (a b : Int32) : a = b ↔ a.toInt = b.toInt := Int32.toInt_inj.symm
theorem mv_t0 : (0 : Int32).toInt = 0 := rfl
section VINT
variable {C : Cx} {cc : ByteArray} {own : String} {nL : Nat} {R : Room} {G : mvG} {kc ks : Nat} {gs : List va_W} {pc : Nat} {lv : List (Option Value)} {st : List Value}
theorem V_top {v v' : Value} (e : v = v') (k : V C kc ks gs pc lv (v' :: st)) : V C kc ks gs pc lv (v :: st) := by rw [e]; exact k
theorem V_topi {x y : Int32} (e : x = y) (k : V C kc ks gs pc lv (.int y :: st)) : V C kc ks gs pc lv (.int x :: st) := by rw [e]; exact k
theorem V_topl {x y : Int64} (e : x = y) (k : V C kc ks gs pc lv (.long y :: st)) : V C kc ks gs pc lv (.long x :: st) := by rw [e]; exact k
theorem V_loc {x y : Int32} (i : Nat) (hi : lv[i]? = some (some (.int x))) (e : x = y) (k : V C kc ks gs pc (lv.set i (some (.int y))) st) : V C kc ks gs pc lv st := by
  have : lv.set i (some (.int y)) = lv := by
    subst e
    apply List.ext_getElem?
    intro j
    rw [List.getElem?_set]
    split
    · rename_i h
      subst h
      split
      · exact hi.symm
      · rename_i h
        rw [List.getElem?_eq_none (by omega)]
    · rfl
  rwa [this] at k
theorem V_if_ltI {x : Int32} {i : Int} {o : Int} (X : OK C cc own nL R G) (tgt : Nat) (d : decode cc pc = .ok (.ifCond .lt o, 3)) (ht : (pc : Int) + o = (tgt : Int)) (hx : x.toInt = i) (kt : i < 0 → V C kc ks gs tgt lv st) (kf : 0 ≤ i → V C kc ks gs (pc + 3) lv st) : V C kc ks gs pc lv (.int x :: st) := V_if_lt X tgt d ht (fun c => kt (by rw [mv_tlt, mv_t0, hx] at c; exact c)) (fun c => kf (by rw [mv_tlt, mv_t0, hx] at c; omega))
theorem V_if_geI {x : Int32} {i : Int} {o : Int} (X : OK C cc own nL R G) (tgt : Nat) (d : decode cc pc = .ok (.ifCond .ge o, 3)) (ht : (pc : Int) + o = (tgt : Int)) (hx : x.toInt = i) (kt : 0 ≤ i → V C kc ks gs tgt lv st) (kf : i < 0 → V C kc ks gs (pc + 3) lv st) : V C kc ks gs pc lv (.int x :: st) := V_if_ge X tgt d ht (fun c => kt (by rw [mv_tle, mv_t0, hx] at c; exact c)) (fun c => kf (by rw [mv_tle, mv_t0, hx] at c; omega))
theorem V_if_gtI {x : Int32} {i : Int} {o : Int} (X : OK C cc own nL R G) (tgt : Nat) (d : decode cc pc = .ok (.ifCond .gt o, 3)) (ht : (pc : Int) + o = (tgt : Int)) (hx : x.toInt = i) (kt : 0 < i → V C kc ks gs tgt lv st) (kf : i ≤ 0 → V C kc ks gs (pc + 3) lv st) : V C kc ks gs pc lv (.int x :: st) := V_if_gt X tgt d ht (fun c => kt (by rw [mv_tlt, mv_t0, hx] at c; exact c)) (fun c => kf (by rw [mv_tlt, mv_t0, hx] at c; omega))
theorem V_if_leI {x : Int32} {i : Int} {o : Int} (X : OK C cc own nL R G) (tgt : Nat) (d : decode cc pc = .ok (.ifCond .le o, 3)) (ht : (pc : Int) + o = (tgt : Int)) (hx : x.toInt = i) (kt : i ≤ 0 → V C kc ks gs tgt lv st) (kf : 0 < i → V C kc ks gs (pc + 3) lv st) : V C kc ks gs pc lv (.int x :: st) := V_if_le X tgt d ht (fun c => kt (by rw [mv_tle, mv_t0, hx] at c; exact c)) (fun c => kf (by rw [mv_tle, mv_t0, hx] at c; omega))
theorem V_if_eqI {x : Int32} {i : Int} {o : Int} (X : OK C cc own nL R G) (tgt : Nat) (d : decode cc pc = .ok (.ifCond .eq o, 3)) (ht : (pc : Int) + o = (tgt : Int)) (hx : x.toInt = i) (kt : i = 0 → V C kc ks gs tgt lv st) (kf : ¬ i = 0 → V C kc ks gs (pc + 3) lv st) : V C kc ks gs pc lv (.int x :: st) := V_if_eq X tgt d ht (fun c => kt (by rw [mv_teq, mv_t0, hx] at c; exact c)) (fun c => kf (by rw [mv_teq, mv_t0, hx] at c; exact c))
theorem V_if_neI {x : Int32} {i : Int} {o : Int} (X : OK C cc own nL R G) (tgt : Nat) (d : decode cc pc = .ok (.ifCond .ne o, 3)) (ht : (pc : Int) + o = (tgt : Int)) (hx : x.toInt = i) (kt : ¬ i = 0 → V C kc ks gs tgt lv st) (kf : i = 0 → V C kc ks gs (pc + 3) lv st) : V C kc ks gs pc lv (.int x :: st) := V_if_ne X tgt d ht (fun c => kt (by rw [mv_teq, mv_t0, hx] at c; exact c)) (fun c => kf (by rw [mv_teq, mv_t0, hx] at c; exact c))
theorem V_icmp_ltI {x y : Int32} {i j : Int} {o : Int} (X : OK C cc own nL R G) (tgt : Nat) (d : decode cc pc = .ok (.if_icmp .lt o, 3)) (ht : (pc : Int) + o = (tgt : Int)) (hx : x.toInt = i) (hy : y.toInt = j) (kt : i < j → V C kc ks gs tgt lv st) (kf : j ≤ i → V C kc ks gs (pc + 3) lv st) : V C kc ks gs pc lv (.int y :: .int x :: st) := V_icmp_lt X tgt d ht (fun c => kt (by rw [mv_tlt, hx, hy] at c; exact c)) (fun c => kf (by rw [mv_tlt, hx, hy] at c; omega))
theorem V_icmp_geI {x y : Int32} {i j : Int} {o : Int} (X : OK C cc own nL R G) (tgt : Nat) (d : decode cc pc = .ok (.if_icmp .ge o, 3)) (ht : (pc : Int) + o = (tgt : Int)) (hx : x.toInt = i) (hy : y.toInt = j) (kt : j ≤ i → V C kc ks gs tgt lv st) (kf : i < j → V C kc ks gs (pc + 3) lv st) : V C kc ks gs pc lv (.int y :: .int x :: st) := V_icmp_ge X tgt d ht (fun c => kt (by rw [mv_tle, hx, hy] at c; exact c)) (fun c => kf (by rw [mv_tle, hx, hy] at c; omega))
theorem V_icmp_gtI {x y : Int32} {i j : Int} {o : Int} (X : OK C cc own nL R G) (tgt : Nat) (d : decode cc pc = .ok (.if_icmp .gt o, 3)) (ht : (pc : Int) + o = (tgt : Int)) (hx : x.toInt = i) (hy : y.toInt = j) (kt : j < i → V C kc ks gs tgt lv st) (kf : i ≤ j → V C kc ks gs (pc + 3) lv st) : V C kc ks gs pc lv (.int y :: .int x :: st) := V_icmp_gt X tgt d ht (fun c => kt (by rw [mv_tlt, hx, hy] at c; exact c)) (fun c => kf (by rw [mv_tlt, hx, hy] at c; omega))
theorem V_icmp_leI {x y : Int32} {i j : Int} {o : Int} (X : OK C cc own nL R G) (tgt : Nat) (d : decode cc pc = .ok (.if_icmp .le o, 3)) (ht : (pc : Int) + o = (tgt : Int)) (hx : x.toInt = i) (hy : y.toInt = j) (kt : i ≤ j → V C kc ks gs tgt lv st) (kf : j < i → V C kc ks gs (pc + 3) lv st) : V C kc ks gs pc lv (.int y :: .int x :: st) := V_icmp_le X tgt d ht (fun c => kt (by rw [mv_tle, hx, hy] at c; exact c)) (fun c => kf (by rw [mv_tle, hx, hy] at c; omega))
theorem V_icmp_eqI {x y : Int32} {i j : Int} {o : Int} (X : OK C cc own nL R G) (tgt : Nat) (d : decode cc pc = .ok (.if_icmp .eq o, 3)) (ht : (pc : Int) + o = (tgt : Int)) (hx : x.toInt = i) (hy : y.toInt = j) (kt : i = j → V C kc ks gs tgt lv st) (kf : ¬ i = j → V C kc ks gs (pc + 3) lv st) : V C kc ks gs pc lv (.int y :: .int x :: st) := V_icmp_eq X tgt d ht (fun c => kt (by rw [mv_teq, hx, hy] at c; exact c)) (fun c => kf (by rw [mv_teq, hx, hy] at c; exact c))
theorem V_icmp_neI {x y : Int32} {i j : Int} {o : Int} (X : OK C cc own nL R G) (tgt : Nat) (d : decode cc pc = .ok (.if_icmp .ne o, 3)) (ht : (pc : Int) + o = (tgt : Int)) (hx : x.toInt = i) (hy : y.toInt = j) (kt : ¬ i = j → V C kc ks gs tgt lv st) (kf : i = j → V C kc ks gs (pc + 3) lv st) : V C kc ks gs pc lv (.int y :: .int x :: st) := V_icmp_ne X tgt d ht (fun c => kt (by rw [mv_teq, hx, hy] at c; exact c)) (fun c => kf (by rw [mv_teq, hx, hy] at c; exact c))
theorem V_iaddS {a b : Int} (X : OK C cc own nL R G) (d : decode cc pc = .ok (.iadd, 1)) (k : V C kc ks gs (pc + 1) lv (.int (iI (a + b)) :: st)) : V C kc ks gs pc lv (.int (iI b) :: .int (iI a) :: st) := V_iadd X d (by rw [iI_add]; exact k)
theorem V_isubS {a b : Int} (X : OK C cc own nL R G) (d : decode cc pc = .ok (.isub, 1)) (k : V C kc ks gs (pc + 1) lv (.int (iI (a - b)) :: st)) : V C kc ks gs pc lv (.int (iI b) :: .int (iI a) :: st) := V_isub X d (by rw [iI_sub]; exact k)
theorem V_imulS {a b : Int} (X : OK C cc own nL R G) (d : decode cc pc = .ok (.imul, 1)) (k : V C kc ks gs (pc + 1) lv (.int (iI (a * b)) :: st)) : V C kc ks gs pc lv (.int (iI b) :: .int (iI a) :: st) := V_imul X d (by rw [iI_mul]; exact k)
theorem V_iincS {i : Nat} {e c : Int} (X : OK C cc own nL R G) (d : decode cc pc = .ok (.iinc i c, 3)) (hi : lv[i]? = some (some (.int (iI e)))) (hn : i < nL) (hok : lvOk lv i = true) (k : V C kc ks gs (pc + 3) (lv.set i (some (.int (iI (e + c))))) st) : V C kc ks gs pc lv st := V_iinc X (iI (e + c)) d hi (iI_add e c) hn hok k
theorem V_tableOutI {df lo hi : Int} {offs : Array Int} {len : Nat} {x : Int32} {i : Int} (X : OK C cc own nL R G) (tgt : Nat) (d : decode cc pc = .ok (.tableswitch df lo hi offs, len)) (hx : x.toInt = i) (h : i < lo ∨ hi < i) (ht : (pc : Int) + df = (tgt : Int)) (k : V C kc ks gs tgt lv st) : V C kc ks gs pc lv (.int x :: st) := V_tableOut X tgt d (by rw [hx]; exact h) ht k
theorem V_tableInI {df lo hi : Int} {offs : Array Int} {len : Nat} {x : Int32} {i : Int} {off : Int} (X : OK C cc own nL R G) (tgt : Nat) (d : decode cc pc = .ok (.tableswitch df lo hi offs, len)) (m : Int) (hx : x.toInt = i) (hm : i = m) (h1 : (decide (m < lo) || decide (hi < m)) = false) (ho : offs[(m - lo).toNat]? = some off) (ht : (pc : Int) + off = (tgt : Int)) (k : V C kc ks gs tgt lv st) : V C kc ks gs pc lv (.int x :: st) := by
  have e : x.toInt = m := hx.trans hm
  simp only [Bool.or_eq_false_iff, decide_eq_false_iff_not] at h1
  exact V_tableIn X tgt d (by rw [e]; exact h1.1) (by rw [e]; exact h1.2) (by rw [e]; exact ho) ht k
end VINT
