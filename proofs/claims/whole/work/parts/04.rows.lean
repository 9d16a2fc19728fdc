section VROWS2
variable {C : Cx} {cc : ByteArray} {own : String} {nL : Nat} {R : Room} {G : mvG} {kc ks : Nat} {gs : List va_W} {pc : Nat} {lv : List (Option Value)} {st : List Value}
theorem V_iand (X : OK C cc own nL R G) {x y : Int32} (d : decode cc pc = .ok (.iand, 1)) (k : V C kc ks gs (pc + 1) lv (.int (x &&& y) :: st)) : V C kc ks gs pc lv (.int y :: .int x :: st) := fun H locs ls hP hD hS hl => lv_iand X.1 X.2.1 d (k H locs ls hP hD hS hl)
theorem V_ior (X : OK C cc own nL R G) {x y : Int32} (d : decode cc pc = .ok (.ior, 1)) (k : V C kc ks gs (pc + 1) lv (.int (x ||| y) :: st)) : V C kc ks gs pc lv (.int y :: .int x :: st) := fun H locs ls hP hD hS hl => lv_ior X.1 X.2.1 d (k H locs ls hP hD hS hl)
theorem V_ixor (X : OK C cc own nL R G) {x y : Int32} (d : decode cc pc = .ok (.ixor, 1)) (k : V C kc ks gs (pc + 1) lv (.int (x ^^^ y) :: st)) : V C kc ks gs pc lv (.int y :: .int x :: st) := fun H locs ls hP hD hS hl => lv_ixor X.1 X.2.1 d (k H locs ls hP hD hS hl)
theorem V_idiv (X : OK C cc own nL R G) {x y : Int32} (d : decode cc pc = .ok (.idiv, 1)) (hne : ¬ y = 0) (k : V C kc ks gs (pc + 1) lv (.int (x / y) :: st)) : V C kc ks gs pc lv (.int y :: .int x :: st) := fun H locs ls hP hD hS hl => lv_idiv X.1 X.2.1 d hne (k H locs ls hP hD hS hl)
theorem V_irem (X : OK C cc own nL R G) {x y : Int32} (d : decode cc pc = .ok (.irem, 1)) (hne : ¬ y = 0) (k : V C kc ks gs (pc + 1) lv (.int (x - x / y * y) :: st)) : V C kc ks gs pc lv (.int y :: .int x :: st) := fun H locs ls hP hD hS hl => lv_irem X.1 X.2.1 d hne (k H locs ls hP hD hS hl)
theorem V_ineg (X : OK C cc own nL R G) {x : Int32} (d : decode cc pc = .ok (.ineg, 1)) (k : V C kc ks gs (pc + 1) lv (.int (-x) :: st)) : V C kc ks gs pc lv (.int x :: st) := fun H locs ls hP hD hS hl => lv_ineg X.1 X.2.1 d (k H locs ls hP hD hS hl)
theorem V_ladd (X : OK C cc own nL R G) {x y : Int64} (d : decode cc pc = .ok (.ladd, 1)) (k : V C kc ks gs (pc + 1) lv (.long (x + y) :: st)) : V C kc ks gs pc lv (.long y :: .long x :: st) := fun H locs ls hP hD hS hl => lv_ladd X.1 X.2.1 d (k H locs ls hP hD hS hl)
theorem V_lmul (X : OK C cc own nL R G) {x y : Int64} (d : decode cc pc = .ok (.lmul, 1)) (k : V C kc ks gs (pc + 1) lv (.long (x * y) :: st)) : V C kc ks gs pc lv (.long y :: .long x :: st) := fun H locs ls hP hD hS hl => lv_lmul X.1 X.2.1 d (k H locs ls hP hD hS hl)
theorem V_ldiv (X : OK C cc own nL R G) {x y : Int64} (d : decode cc pc = .ok (.ldiv, 1)) (hne : ¬ y = 0) (k : V C kc ks gs (pc + 1) lv (.long (x / y) :: st)) : V C kc ks gs pc lv (.long y :: .long x :: st) := fun H locs ls hP hD hS hl => lv_ldiv X.1 X.2.1 d hne (k H locs ls hP hD hS hl)
theorem V_lrem (X : OK C cc own nL R G) {x y : Int64} (d : decode cc pc = .ok (.lrem, 1)) (hne : ¬ y = 0) (k : V C kc ks gs (pc + 1) lv (.long (x - x / y * y) :: st)) : V C kc ks gs pc lv (.long y :: .long x :: st) := fun H locs ls hP hD hS hl => lv_lrem X.1 X.2.1 d hne (k H locs ls hP hD hS hl)
theorem V_ishl (X : OK C cc own nL R G) {x y : Int32} (d : decode cc pc = .ok (.ishl, 1)) (k : V C kc ks gs (pc + 1) lv (.int (x <<< (y &&& 31)) :: st)) : V C kc ks gs pc lv (.int y :: .int x :: st) := fun H locs ls hP hD hS hl => lv_ishl X.1 X.2.1 d (k H locs ls hP hD hS hl)
theorem V_ishr (X : OK C cc own nL R G) {x y : Int32} (d : decode cc pc = .ok (.ishr, 1)) (k : V C kc ks gs (pc + 1) lv (.int (x >>> (y &&& 31)) :: st)) : V C kc ks gs pc lv (.int y :: .int x :: st) := fun H locs ls hP hD hS hl => lv_ishr X.1 X.2.1 d (k H locs ls hP hD hS hl)
theorem V_i2l (X : OK C cc own nL R G) {x : Int32} (v : Int64) (d : decode cc pc = .ok (.i2l, 1)) (hv : x.toInt64 = v) (k : V C kc ks gs (pc + 1) lv (.long v :: st)) : V C kc ks gs pc lv (.int x :: st) := fun H locs ls hP hD hS hl => lv_i2l X.1 X.2.1 d hv (k H locs ls hP hD hS hl)
theorem V_l2i (X : OK C cc own nL R G) {x : Int64} (v : Int32) (d : decode cc pc = .ok (.l2i, 1)) (hv : x.toInt32 = v) (k : V C kc ks gs (pc + 1) lv (.int v :: st)) : V C kc ks gs pc lv (.long x :: st) := fun H locs ls hP hD hS hl => lv_l2i X.1 X.2.1 d hv (k H locs ls hP hD hS hl)
theorem V_i2c (X : OK C cc own nL R G) {x : Int32} (v : Int32) (d : decode cc pc = .ok (.i2c, 1)) (hv : (x.toUInt32 % 65536).toInt32 = v) (k : V C kc ks gs (pc + 1) lv (.int v :: st)) : V C kc ks gs pc lv (.int x :: st) := fun H locs ls hP hD hS hl => lv_i2c X.1 X.2.1 d hv (k H locs ls hP hD hS hl)
theorem V_lcmp (X : OK C cc own nL R G) {x y : Int64} (d : decode cc pc = .ok (.lcmp, 1)) (k : V C kc ks gs (pc + 1) lv (.int (lg_cmp x y) :: st)) : V C kc ks gs pc lv (.long y :: .long x :: st) := fun H locs ls hP hD hS hl => W.lcmp X.1 X.2.1 d (k H locs ls hP hD hS hl)
theorem V_pop (X : OK C cc own nL R G) {v : Value} (d : decode cc pc = .ok (.pop, 1)) (hc : v.category = 1) (k : V C kc ks gs (pc + 1) lv st) : V C kc ks gs pc lv (v :: st) := fun H locs ls hP hD hS hl => lv_pop X.1 X.2.1 d hc (k H locs ls hP hD hS hl)
theorem V_dup2 (X : OK C cc own nL R G) {v w : Value} (d : decode cc pc = .ok (.dup2, 1)) (hc : v.category = 1) (hc2 : w.category = 1) (k : V C kc ks gs (pc + 1) lv (v :: w :: v :: w :: st)) : V C kc ks gs pc lv (v :: w :: st) := fun H locs ls hP hD hS hl => lv_dup2_11 X.1 X.2.1 d hc hc2 (k H locs ls hP hD hS hl)
theorem V_dup2l (X : OK C cc own nL R G) {v : Value} (d : decode cc pc = .ok (.dup2, 1)) (hc : v.category = 2) (k : V C kc ks gs (pc + 1) lv (v :: v :: st)) : V C kc ks gs pc lv (v :: st) := fun H locs ls hP hD hS hl => lv_dup2_2 X.1 X.2.1 d hc (k H locs ls hP hD hS hl)
theorem V_dup_x1 (X : OK C cc own nL R G) {v w : Value} (d : decode cc pc = .ok (.dup_x1, 1)) (hc : v.category = 1) (hc2 : w.category = 1) (k : V C kc ks gs (pc + 1) lv (v :: w :: v :: st)) : V C kc ks gs pc lv (v :: w :: st) := fun H locs ls hP hD hS hl => lv_dup_x1 X.1 X.2.1 d hc hc2 (k H locs ls hP hD hS hl)
theorem V_if_eq (X : OK C cc own nL R G) {x : Int32} {o : Int} (tgt : Nat) (d : decode cc pc = .ok (.ifCond .eq o, 3)) (ht : (pc : Int) + o = (tgt : Int)) (kt : x = 0 → V C kc ks gs tgt lv st) (kf : ¬ x = 0 → V C kc ks gs (pc + 3) lv st) : V C kc ks gs pc lv (.int x :: st) := fun H locs ls hP hD hS hl => lv_if_eq X.1 X.2.1 d ht (fun c => kt c H locs ls hP hD hS hl) (fun c => kf c H locs ls hP hD hS hl)
theorem V_icmp_eq (X : OK C cc own nL R G) {x y : Int32} {o : Int} (tgt : Nat) (d : decode cc pc = .ok (.if_icmp .eq o, 3)) (ht : (pc : Int) + o = (tgt : Int)) (kt : x = y → V C kc ks gs tgt lv st) (kf : ¬ x = y → V C kc ks gs (pc + 3) lv st) : V C kc ks gs pc lv (.int y :: .int x :: st) := fun H locs ls hP hD hS hl => lv_icmp_eq X.1 X.2.1 d ht (fun c => kt c H locs ls hP hD hS hl) (fun c => kf c H locs ls hP hD hS hl)
theorem V_if_ne (X : OK C cc own nL R G) {x : Int32} {o : Int} (tgt : Nat) (d : decode cc pc = .ok (.ifCond .ne o, 3)) (ht : (pc : Int) + o = (tgt : Int)) (kt : ¬ x = 0 → V C kc ks gs tgt lv st) (kf : x = 0 → V C kc ks gs (pc + 3) lv st) : V C kc ks gs pc lv (.int x :: st) := fun H locs ls hP hD hS hl => lv_if_ne X.1 X.2.1 d ht (fun c => kt c H locs ls hP hD hS hl) (fun c => kf c H locs ls hP hD hS hl)
theorem V_icmp_ne (X : OK C cc own nL R G) {x y : Int32} {o : Int} (tgt : Nat) (d : decode cc pc = .ok (.if_icmp .ne o, 3)) (ht : (pc : Int) + o = (tgt : Int)) (kt : ¬ x = y → V C kc ks gs tgt lv st) (kf : x = y → V C kc ks gs (pc + 3) lv st) : V C kc ks gs pc lv (.int y :: .int x :: st) := fun H locs ls hP hD hS hl => lv_icmp_ne X.1 X.2.1 d ht (fun c => kt c H locs ls hP hD hS hl) (fun c => kf c H locs ls hP hD hS hl)
theorem V_if_ge (X : OK C cc own nL R G) {x : Int32} {o : Int} (tgt : Nat) (d : decode cc pc = .ok (.ifCond .ge o, 3)) (ht : (pc : Int) + o = (tgt : Int)) (kt : 0 ≤ x → V C kc ks gs tgt lv st) (kf : ¬ 0 ≤ x → V C kc ks gs (pc + 3) lv st) : V C kc ks gs pc lv (.int x :: st) := fun H locs ls hP hD hS hl => lv_if_ge X.1 X.2.1 d ht (fun c => kt c H locs ls hP hD hS hl) (fun c => kf c H locs ls hP hD hS hl)
theorem V_if_gt (X : OK C cc own nL R G) {x : Int32} {o : Int} (tgt : Nat) (d : decode cc pc = .ok (.ifCond .gt o, 3)) (ht : (pc : Int) + o = (tgt : Int)) (kt : 0 < x → V C kc ks gs tgt lv st) (kf : ¬ 0 < x → V C kc ks gs (pc + 3) lv st) : V C kc ks gs pc lv (.int x :: st) := fun H locs ls hP hD hS hl => lv_if_gt X.1 X.2.1 d ht (fun c => kt c H locs ls hP hD hS hl) (fun c => kf c H locs ls hP hD hS hl)
theorem V_icmp_gt (X : OK C cc own nL R G) {x y : Int32} {o : Int} (tgt : Nat) (d : decode cc pc = .ok (.if_icmp .gt o, 3)) (ht : (pc : Int) + o = (tgt : Int)) (kt : y < x → V C kc ks gs tgt lv st) (kf : ¬ y < x → V C kc ks gs (pc + 3) lv st) : V C kc ks gs pc lv (.int y :: .int x :: st) := fun H locs ls hP hD hS hl => lv_icmp_gt X.1 X.2.1 d ht (fun c => kt c H locs ls hP hD hS hl) (fun c => kf c H locs ls hP hD hS hl)
theorem V_if_le (X : OK C cc own nL R G) {x : Int32} {o : Int} (tgt : Nat) (d : decode cc pc = .ok (.ifCond .le o, 3)) (ht : (pc : Int) + o = (tgt : Int)) (kt : x ≤ 0 → V C kc ks gs tgt lv st) (kf : ¬ x ≤ 0 → V C kc ks gs (pc + 3) lv st) : V C kc ks gs pc lv (.int x :: st) := fun H locs ls hP hD hS hl => lv_if_le X.1 X.2.1 d ht (fun c => kt c H locs ls hP hD hS hl) (fun c => kf c H locs ls hP hD hS hl)
theorem V_icmp_le (X : OK C cc own nL R G) {x y : Int32} {o : Int} (tgt : Nat) (d : decode cc pc = .ok (.if_icmp .le o, 3)) (ht : (pc : Int) + o = (tgt : Int)) (kt : x ≤ y → V C kc ks gs tgt lv st) (kf : ¬ x ≤ y → V C kc ks gs (pc + 3) lv st) : V C kc ks gs pc lv (.int y :: .int x :: st) := fun H locs ls hP hD hS hl => lv_icmp_le X.1 X.2.1 d ht (fun c => kt c H locs ls hP hD hS hl) (fun c => kf c H locs ls hP hD hS hl)
theorem V_icmp_lt (X : OK C cc own nL R G) {x y : Int32} {o : Int} (tgt : Nat) (d : decode cc pc = .ok (.if_icmp .lt o, 3)) (ht : (pc : Int) + o = (tgt : Int)) (kt : x < y → V C kc ks gs tgt lv st) (kf : ¬ x < y → V C kc ks gs (pc + 3) lv st) : V C kc ks gs pc lv (.int y :: .int x :: st) := fun H locs ls hP hD hS hl => lv_icmp_lt X.1 X.2.1 d ht (fun c => kt c H locs ls hP hD hS hl) (fun c => kf c H locs ls hP hD hS hl)
theorem V_ifnull (X : OK C cc own nL R G) {x : Nat} {o : Int} (d : decode cc pc = .ok (.ifnull o, 3)) (k : V C kc ks gs (pc + 3) lv st) : V C kc ks gs pc lv (.ref x :: st) := fun H locs ls hP hD hS hl => lv_ifnull X.1 X.2.1 d (k H locs ls hP hD hS hl)
theorem V_ifnullN (X : OK C cc own nL R G) {o : Int} (tgt : Nat) (d : decode cc pc = .ok (.ifnull o, 3)) (ht : (pc : Int) + o = (tgt : Int)) (k : V C kc ks gs tgt lv st) : V C kc ks gs pc lv (.null :: st) := fun H locs ls hP hD hS hl => lv_ifnullN X.1 X.2.1 d ht (k H locs ls hP hD hS hl)
theorem V_ifnonnull (X : OK C cc own nL R G) {x : Nat} {o : Int} (tgt : Nat) (d : decode cc pc = .ok (.ifnonnull o, 3)) (ht : (pc : Int) + o = (tgt : Int)) (k : V C kc ks gs tgt lv st) : V C kc ks gs pc lv (.ref x :: st) := fun H locs ls hP hD hS hl => lv_ifnonnull X.1 X.2.1 d ht (k H locs ls hP hD hS hl)
theorem V_ifnonnullN (X : OK C cc own nL R G) {o : Int} (d : decode cc pc = .ok (.ifnonnull o, 3)) (k : V C kc ks gs (pc + 3) lv st) : V C kc ks gs pc lv (.null :: st) := fun H locs ls hP hD hS hl => lv_ifnonnullN X.1 X.2.1 d (k H locs ls hP hD hS hl)
theorem V_tableIn (X : OK C cc own nL R G) {df lo hi : Int} {offs : Array Int} {len : Nat} {x : Int32} {off : Int} (tgt : Nat) (d : decode cc pc = .ok (.tableswitch df lo hi offs, len)) (h1 : ¬ x.toInt < lo) (h2 : ¬ hi < x.toInt) (ho : offs[(x.toInt - lo).toNat]? = some off) (ht : (pc : Int) + off = (tgt : Int)) (k : V C kc ks gs tgt lv st) : V C kc ks gs pc lv (.int x :: st) := fun H locs ls hP hD hS hl => lv_tableIn X.1 X.2.1 d h1 h2 ho ht (k H locs ls hP hD hS hl)
theorem V_tableOut (X : OK C cc own nL R G) {df lo hi : Int} {offs : Array Int} {len : Nat} {x : Int32} (tgt : Nat) (d : decode cc pc = .ok (.tableswitch df lo hi offs, len)) (h : x.toInt < lo ∨ hi < x.toInt) (ht : (pc : Int) + df = (tgt : Int)) (k : V C kc ks gs tgt lv st) : V C kc ks gs pc lv (.int x :: st) := fun H locs ls hP hD hS hl => lv_tableOut X.1 X.2.1 d h ht (k H locs ls hP hD hS hl)
theorem V_lookup (X : OK C cc own nL R G) {df : Int} {ps : Array (Int × Int)} {len : Nat} {x : Int32} {off : Int} (tgt : Nat) (d : decode cc pc = .ok (.lookupswitch df ps, len)) (hp : (ps.toList.zip (ps.toList.drop 1)).all (fun (a, next) => a.1 < next.1) = true) (ho : Op.lookupswitch.offset ps.toList df x.toInt = off) (ht : (pc : Int) + off = (tgt : Int)) (k : V C kc ks gs tgt lv st) : V C kc ks gs pc lv (.int x :: st) := fun H locs ls hP hD hS hl => lv_lookup X.1 X.2.1 d hp ho ht (k H locs ls hP hD hS hl)
end VROWS2
/-- what the tables say of a getfield or putfield at a place of a class's pool -/
def FLK (own : String) (idx ci k : Nat) (ty : FieldType) (fin : Bool) : Prop := ∃ (Cn : String) (T : u_T) (N : Nat) (ty0 : Nat → FieldType), vwCl[ci]? = some (Cn, T, N) ∧ k < N ∧ (∀ w ∈ u_ws Cn T N, w ∈ TB) ∧ (∀ j, j < N → parseFieldDescriptor (T j).2.2.1 = some (ty0 j)) ∧ (∀ a, a < N → ∀ b, b < N → a ≠ b → (T a).2.1 ≠ (T b).2.1) ∧ ty0 k = ty ∧ (T k).2.2.2 = fin ∧ (T k).1 = Cn ∧ (Cond.fieldLink own idx Cn (T k).2.1 (T k).2.2.1 ∈ TB ∨ ∃ host, Cond.fieldLinkNest own idx Cn (T k).2.1 (T k).2.2.1 host ∈ NB)
theorem mv_ws {Cn : String} {T : u_T} {N : Nat} (h : ∀ j, j < N → u_lay Cn T j ∈ TB) : ∀ w ∈ u_ws Cn T N, w ∈ TB := fun w hw => by
  obtain ⟨j, hj, rfl⟩ := List.mem_map.mp hw
  exact h j (List.mem_range.mp hj)
section VROWS3
variable {C : Cx} {cc : ByteArray} {own : String} {nL : Nat} {R : Room} {G : mvG} {kc ks : Nat} {gs : List va_W} {pc : Nat} {lv : List (Option Value)} {st : List Value}
theorem V_get {idx ci kf : Nat} {ty : FieldType} {fin : Bool} {g : va_W} {a : Nat} {fs : List Value} {v : Value} (X : OK C cc own nL R G) (F : FLK own idx ci kf ty fin) (i j : Nat) (hg : gs[i]? = some g) (hj : g[j]? = some (a, .inr (ci, fs))) (hv : fs[kf]? = some v) (d : decode cc pc = .ok (.getfield idx, 3)) (k : V C kc ks gs (pc + 3) lv (v :: st)) : V C kc ks gs pc lv (.ref a :: st) := fun H locs ls hP hD hS hl => by
  obtain ⟨Cn, T, N, ty0, h1, h2, h3, h4, h5, h6, h7, h8, h9⟩ := F
  obtain ⟨n, e1, e2⟩ := mv_flat hg hj
  have hG : CG C = G := X.2.2.2.2.2.2.2.2.2.2.2
  have hP' := hP
  rw [hG] at hP'
  rcases h9 with h9 | ⟨host, h9⟩
  · exact va_get X.1 X.2.1 X.2.2.2.2.1 h3 X.2.2.2.1 X.2.2.2.2.2.1 hP' n e1 h1 kf h2 (X.2.2.2.2.1 _ h9) (fun x hx => by rw [h8] at hx; exact hx) hv d (k H locs ls hP hD hS hl)
  · exact va_getN X.1 X.2.1 X.2.2.2.2.1 h3 X.2.2.2.1 X.2.2.2.2.2.1 hP' n e1 h1 kf h2 (va_Nw.use rfl (X.2.2.2.2.2.2.1 _ h9)) (fun x hx => by rw [h8] at hx; exact hx) hv d (k H locs ls hP hD hS hl)
theorem V_put {idx ci kf : Nat} {ty : FieldType} {g : va_W} {a : Nat} {fs : List Value} {v : Value} (X : OK C cc own nL R G) (F : FLK own idx ci kf ty false) (i j : Nat) (hg : gs[i]? = some g) (hj : g[j]? = some (a, .inr (ci, fs))) (hn : narrow ty v = v) (hf : fits ty v = true) (hl0 : kf < fs.length) (d : decode cc pc = .ok (.putfield idx, 3)) (k : V C kc ks (gs.set i (g.set j (a, .inr (ci, fs.set kf v)))) (pc + 3) lv st) : V C kc ks gs pc lv (v :: .ref a :: st) := fun H locs ls hP hD hS hl => by
  obtain ⟨Cn, T, N, ty0, h1, h2, h3, h4, h5, h6, h7, h8, h9⟩ := F
  obtain ⟨n, e1, e2⟩ := mv_flat hg hj
  have hG : CG C = G := X.2.2.2.2.2.2.2.2.2.2.2
  have hP' := hP
  rw [hG] at hP'
  have hd : parseFieldDescriptor (T kf).2.2.1 = some ty := by rw [h4 kf h2, h6]
  rcases h9 with h9 | ⟨host, h9⟩
  · exact va_put X.1 X.2.1 X.2.2.2.2.1 h3 ty0 h4 h5 X.2.2.2.1 X.2.2.2.2.2.1 hP' hD hS n e1 h1 kf h2 (X.2.2.2.2.1 _ h9) (fun x hx => by rw [h8] at hx; exact hx) h7 hd hn hf hl0 d (fun H1 locs1 p1 d1 s1 => k H1 locs1 ls (by rw [hG, ← e2]; exact p1) (by rw [← e2]; exact d1) s1 hl)
  · exact va_putN X.1 X.2.1 X.2.2.2.2.1 h3 ty0 h4 h5 X.2.2.2.1 X.2.2.2.2.2.1 hP' hD hS n e1 h1 kf h2 (va_Nw.use rfl (X.2.2.2.2.2.2.1 _ h9)) (fun x hx => by rw [h8] at hx; exact hx) h7 hd hn hf hl0 d (fun H1 locs1 p1 d1 s1 => k H1 locs1 ls (by rw [hG, ← e2]; exact p1) (by rw [← e2]; exact d1) s1 hl)
theorem V_iald {g : va_W} {a n : Nat} {f : Nat → Int32} {x : Int32} (X : OK C cc own nL R G) (i j : Nat) (hg : gs[i]? = some g) (hj : g[j]? = some (a, .inl (G.2.1 0, n, .inl f))) (hin : vp_in x n) (d : decode cc pc = .ok (.iaload, 1)) (k : V C kc ks gs (pc + 1) lv (.int (f x.toNatClampNeg) :: st)) : V C kc ks gs pc lv (.int x :: .ref a :: st) := fun H locs ls hP hD hS hl => by
  obtain ⟨n, e1, e2⟩ := mv_flat hg hj
  have hG : CG C = G := X.2.2.2.2.2.2.2.2.2.2.2
  have hP' := hP
  rw [hG] at hP'
  exact va_iald X.1 X.2.1 X.2.2.2.2.2.1 hP' n 0 e1 rfl hin d (k H locs ls hP hD hS hl)
theorem V_zald {g : va_W} {a n : Nat} {f : Nat → Int32} {x : Int32} (X : OK C cc own nL R G) (i j : Nat) (hg : gs[i]? = some g) (hj : g[j]? = some (a, .inl (G.2.1 1, n, .inl f))) (hin : vp_in x n) (d : decode cc pc = .ok (.baload, 1)) (k : V C kc ks gs (pc + 1) lv (.int (f x.toNatClampNeg) :: st)) : V C kc ks gs pc lv (.int x :: .ref a :: st) := fun H locs ls hP hD hS hl => by
  obtain ⟨n, e1, e2⟩ := mv_flat hg hj
  have hG : CG C = G := X.2.2.2.2.2.2.2.2.2.2.2
  have hP' := hP
  rw [hG] at hP'
  exact va_zald X.1 X.2.1 X.2.2.2.2.2.1 hP' n 1 e1 rfl hin d (k H locs ls hP hD hS hl)
theorem V_cald {g : va_W} {a n : Nat} {f : Nat → Int32} {x : Int32} (X : OK C cc own nL R G) (i j : Nat) (hg : gs[i]? = some g) (hj : g[j]? = some (a, .inl (G.2.1 2, n, .inl f))) (hin : vp_in x n) (d : decode cc pc = .ok (.caload, 1)) (k : V C kc ks gs (pc + 1) lv (.int (f x.toNatClampNeg) :: st)) : V C kc ks gs pc lv (.int x :: .ref a :: st) := fun H locs ls hP hD hS hl => by
  obtain ⟨n, e1, e2⟩ := mv_flat hg hj
  have hG : CG C = G := X.2.2.2.2.2.2.2.2.2.2.2
  have hP' := hP
  rw [hG] at hP'
  exact va_cald X.1 X.2.1 X.2.2.2.2.2.1 hP' n 2 e1 rfl hin d (k H locs ls hP hD hS hl)
theorem V_aald {g : va_W} {a n t0 : Nat} {f : Nat → Option Nat} {x : Int32} {cA : ClassId} {E : String} (X : OK C cc own nL R G) (i j : Nat) (hg : gs[i]? = some g) (hj : g[j]? = some (a, .inl (cA, n, .inr (.inr (.inr (.inr f)))))) (ht : (TY G.2.1)[t0]? = some (cA, .object E)) (hin : vp_in x n) (d : decode cc pc = .ok (.aaload, 1)) (k : V C kc ks gs (pc + 1) lv (va_rf (f x.toNatClampNeg) :: st)) : V C kc ks gs pc lv (.int x :: .ref a :: st) := fun H locs ls hP hD hS hl => by
  obtain ⟨n, e1, e2⟩ := mv_flat hg hj
  have hG : CG C = G := X.2.2.2.2.2.2.2.2.2.2.2
  have hP' := hP
  rw [hG] at hP'
  exact va_aldq X.1 X.2.1 X.2.2.2.2.2.1 hP' n t0 e1 ht hin d (k H locs ls hP hD hS hl)
theorem V_iast {g : va_W} {a n : Nat} {f : Nat → Int32} {x y : Int32} (X : OK C cc own nL R G) (i j : Nat) (hg : gs[i]? = some g) (hj : g[j]? = some (a, .inl (G.2.1 0, n, .inl f))) (hin : vp_in x n) (d : decode cc pc = .ok (.iastore, 1)) (k : V C kc ks (gs.set i (g.set j (a, .inl (G.2.1 0, n, .inl (upd f x.toNatClampNeg y))))) (pc + 1) lv st) : V C kc ks gs pc lv (.int y :: .int x :: .ref a :: st) := fun H locs ls hP hD hS hl => by
  obtain ⟨n, e1, e2⟩ := mv_flat hg hj
  have hG : CG C = G := X.2.2.2.2.2.2.2.2.2.2.2
  have hP' := hP
  rw [hG] at hP'
  exact va_iast X.1 X.2.1 X.2.2.2.2.2.1 hP' hD hS n 0 e1 rfl hin d (fun H1 locs1 p1 d1 s1 => k H1 locs1 ls (by rw [hG, ← e2]; exact p1) (by rw [← e2]; exact d1) s1 hl)
theorem V_zast {g : va_W} {a n : Nat} {f : Nat → Int32} {x y : Int32} (X : OK C cc own nL R G) (i j : Nat) (hg : gs[i]? = some g) (hj : g[j]? = some (a, .inl (G.2.1 1, n, .inl f))) (hin : vp_in x n) (z : Int32) (hz : vp_nar .boolean y = z) (d : decode cc pc = .ok (.bastore, 1)) (k : V C kc ks (gs.set i (g.set j (a, .inl (G.2.1 1, n, .inl (upd f x.toNatClampNeg z))))) (pc + 1) lv st) : V C kc ks gs pc lv (.int y :: .int x :: .ref a :: st) := fun H locs ls hP hD hS hl => by
  obtain ⟨n, e1, e2⟩ := mv_flat hg hj
  have hG : CG C = G := X.2.2.2.2.2.2.2.2.2.2.2
  have hP' := hP
  rw [hG] at hP'
  subst hz
  exact va_zast X.1 X.2.1 X.2.2.2.2.2.1 hP' hD hS n 1 e1 rfl hin d (fun H1 locs1 p1 d1 s1 => k H1 locs1 ls (by rw [hG, ← e2]; exact p1) (by rw [← e2]; exact d1) s1 hl)
theorem V_cast {g : va_W} {a n : Nat} {f : Nat → Int32} {x y : Int32} (X : OK C cc own nL R G) (i j : Nat) (hg : gs[i]? = some g) (hj : g[j]? = some (a, .inl (G.2.1 2, n, .inl f))) (hin : vp_in x n) (z : Int32) (hz : vp_nar .char y = z) (d : decode cc pc = .ok (.castore, 1)) (k : V C kc ks (gs.set i (g.set j (a, .inl (G.2.1 2, n, .inl (upd f x.toNatClampNeg z))))) (pc + 1) lv st) : V C kc ks gs pc lv (.int y :: .int x :: .ref a :: st) := fun H locs ls hP hD hS hl => by
  obtain ⟨n, e1, e2⟩ := mv_flat hg hj
  have hG : CG C = G := X.2.2.2.2.2.2.2.2.2.2.2
  have hP' := hP
  rw [hG] at hP'
  subst hz
  exact va_cast X.1 X.2.1 X.2.2.2.2.2.1 hP' hD hS n 2 e1 rfl hin d (fun H1 locs1 p1 d1 s1 => k H1 locs1 ls (by rw [hG, ← e2]; exact p1) (by rw [← e2]; exact d1) s1 hl)
theorem V_alen {g : va_W} {a t0 : Nat} {x : vp_A} {cA : ClassId} {ty : FieldType} (X : OK C cc own nL R G) (i j : Nat) (v : Int32) (hg : gs[i]? = some g) (hj : g[j]? = some (a, .inl (cA, x))) (ht : (TY G.2.1)[t0]? = some (cA, ty)) (hv : Int32.ofNat x.1 = v) (d : decode cc pc = .ok (.arraylength, 1)) (k : V C kc ks gs (pc + 1) lv (.int v :: st)) : V C kc ks gs pc lv (.ref a :: st) := fun H locs ls hP hD hS hl => by
  obtain ⟨n, e1, e2⟩ := mv_flat hg hj
  have hG : CG C = G := X.2.2.2.2.2.2.2.2.2.2.2
  have hP' := hP
  rw [hG] at hP'
  exact va_alen X.1 X.2.1 X.2.2.2.2.2.1 hP' n t0 e1 ht hv d (k H locs ls hP hD hS hl)
theorem V_gets {q : String × List Int32} {idx : Nat} (X : OK C cc own nL R G) (kq : Nat) (hq : mvST[kq]? = some q) (hl0 : Cond.fieldLink own idx "MudMoot$Reader" q.1 "[I" ∈ TB) (d : decode cc pc = .ok (.getstatic idx, 3)) (k : V C kc ks gs (pc + 3) lv (.ref (G.2.2 kq) :: st)) : V C kc ks gs pc lv st := fun H locs ls hP hD hS hl => va_gets X.1 X.2.1 (X.2.2.2.2.2.2.2.1 kq q hq).1 hS X.2.2.2.1 (X.2.2.2.2.1 _ hl0) (fun _ h => h) d (k H locs ls hP hD hS hl)
theorem V_sald {q : String × List Int32} {x : Int32} (X : OK C cc own nL R G) (kq : Nat) (hq : mvST[kq]? = some q) (hin : vp_in x q.2.length) (v : Int32) (hv : q.2.getD x.toNatClampNeg 0 = v) (d : decode cc pc = .ok (.iaload, 1)) (k : V C kc ks gs (pc + 1) lv (.int v :: st)) : V C kc ks gs pc lv (.int x :: .ref (G.2.2 kq) :: st) := fun H locs ls hP hD hS hl => va_ti X.1 X.2.1 (X.2.2.2.2.2.2.2.1 kq q hq).2 hS hin (by rw [hv]) d (k H locs ls hP hD hS hl)
theorem V_slen {q : String × List Int32} (X : OK C cc own nL R G) (kq : Nat) (hq : mvST[kq]? = some q) (v : Int32) (hv : Int32.ofNat q.2.length = v) (d : decode cc pc = .ok (.arraylength, 1)) (k : V C kc ks gs (pc + 1) lv (.int v :: st)) : V C kc ks gs pc lv (.ref (G.2.2 kq) :: st) := fun H locs ls hP hD hS hl => va_tlen X.1 X.2.1 (X.2.2.2.2.2.2.2.1 kq q hq).2 hS hv d (k H locs ls hP hD hS hl)
end VROWS3
