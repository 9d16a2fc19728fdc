-- ===== the judgement V: a symbolic state (groups of cells, place, locals, stack) from which the method comes to its end =====
abbrev TY (cy : Nat → ClassId) : List (ClassId × FieldType) := [(cy 0, .int), (cy 1, .boolean), (cy 2, .char), (cy 3, .object "MudMoot$Moment"), (cy 4, .object "MudMoot$One")]
def mvNT (U : State) : Prop := ∀ w ∈ NB, va_Nw w U
theorem mvNT.warm {s U : State} (hW : s.WarmedH U.vm) (h : mvNT s) : mvNT U := fun w hw => by
  have hn : isNest w = true := (List.mem_filter.mp hw).2
  have h1 := h w hw
  cases w <;> first | (exact va_Nw.warmF hW h1) | (exact va_Nw.warmM hW h1) | (exact va_Nw.warmC hW h1) | (cases hn)
theorem mvNT.same {s U : State} (e : s.vm = U.vm) (h : mvNT s) : mvNT U := fun w hw => by
  have hn : isNest w = true := (List.mem_filter.mp hw).2
  have h1 := h w hw
  cases w <;> first | (exact va_Nw.same rfl e h1) | (cases hn)
/-- the six static rows of Reader -/
def mvST : List (String × List Int32) := [("PERSON_LEAST", [0, 0, 1, 0]), ("PERSON_MOST", [5, 5, 4, 9]), ("SOAKED_LEAST", [1]), ("SOAKED_MOST", [9]), ("DEEP_LEAST", [0, 0, 0]), ("DEEP_MOST", [5, 5, 9])]
def mvSZ (st : Nat → Nat) (A : Nat → Prop) (U : State) (H : Heap) : Prop := ∀ (k : Nat) (q : String × List Int32), mvST[k]? = some q → va_Z "MudMoot$Reader" q.1 "[I" (.ref (st k)) A U H ∧ va_T .int (st k) q.2.length (fun j => .int (q.2.getD j 0)) A U H
theorem mvSZ.moved {st : Nat → Nat} {A : Nat → Prop} {u U : State} {H : Heap} (hvm : u.vm.Alike U.vm) (h : mvSZ st A u H) : mvSZ st A U H := fun k q hq => ⟨(h k q hq).1.moved hvm, (h k q hq).2.moved hvm⟩
theorem mvSZ.kept {st : Nat → Nat} {A : Nat → Prop} {U : State} {H H1 : Heap} (h : mvSZ st A U H) (hq : ∀ a : Nat, a < H.size → ¬ A a → H1[a]? = H[a]?) : mvSZ st A U H1 := fun k q hk => ⟨(h k q hk).1.kept hq, (h k q hk).2.kept hq⟩
theorem mvSZ.narrow {st : Nat → Nat} {A B : Nat → Prop} {U : State} {H : Heap} (h : mvSZ st A U H) (hAB : ∀ q, B q → A q) : mvSZ st B U H := fun k q hk => ⟨(h k q hk).1.narrow hAB, (h k q hk).2.narrow hAB⟩
abbrev mvG : Type := va_G × (Nat → ClassId) × (Nat → Nat)
abbrev Cx : Type := Program × Launch × Env × Room × State × MethodId × Array Value × List Frame × Method × Code × (State → Prop) × mvG × (Nat → Prop) × Nat
abbrev Cp (C : Cx) : Program := C.1
abbrev Cl (C : Cx) : Launch := C.2.1
abbrev Ce (C : Cx) : Env := C.2.2.1
abbrev CR (C : Cx) : Room := C.2.2.2.1
abbrev Cs (C : Cx) : State := C.2.2.2.2.1
abbrev Cm (C : Cx) : MethodId := C.2.2.2.2.2.1
abbrev Ca (C : Cx) : Array Value := C.2.2.2.2.2.2.1
abbrev Cb (C : Cx) : List Frame := C.2.2.2.2.2.2.2.1
abbrev Cme (C : Cx) : Method := C.2.2.2.2.2.2.2.2.1
abbrev Cc (C : Cx) : Code := C.2.2.2.2.2.2.2.2.2.1
abbrev CQ (C : Cx) : State → Prop := C.2.2.2.2.2.2.2.2.2.2.1
abbrev CG (C : Cx) : mvG := C.2.2.2.2.2.2.2.2.2.2.2.1
abbrev CA (C : Cx) : Nat → Prop := C.2.2.2.2.2.2.2.2.2.2.2.2.1
abbrev CL (C : Cx) : Nat := C.2.2.2.2.2.2.2.2.2.2.2.2.2
def lvA : Nat → List (Option Value) → List (Nat × Value)
  | _, [] => []
  | i, none :: r => lvA (i + 1) r
  | i, some v :: r => (i, v) :: lvA (i + 1) r
theorem lvA_mem : ∀ (lv : List (Option Value)) (o i : Nat) (v : Value), lv[i]? = some (some v) → (o + i, v) ∈ lvA o lv
  | [], o, i, v, h => by simp at h
  | none :: r, o, 0, v, h => by simp at h
  | none :: r, o, i + 1, v, h => by
    have := lvA_mem r (o + 1) i v (by simpa using h)
    rw [show o + (i + 1) = o + 1 + i by omega]
    exact this
  | some w :: r, o, 0, v, h => by
    simp at h
    subst h
    exact List.mem_cons_self
  | some w :: r, o, i + 1, v, h => by
    have := lvA_mem r (o + 1) i v (by simpa using h)
    rw [show o + (i + 1) = o + 1 + i by omega]
    exact List.mem_cons_of_mem _ this
theorem lvA_of : ∀ (lv : List (Option Value)) (o j : Nat) (v : Value), (j, v) ∈ lvA o lv → ∃ i, j = o + i ∧ lv[i]? = some (some v)
  | [], o, j, v, h => by simp [lvA] at h
  | none :: r, o, j, v, h => by
    obtain ⟨i, h1, h2⟩ := lvA_of r (o + 1) j v h
    exact ⟨i + 1, by omega, by simpa using h2⟩
  | some w :: r, o, j, v, h => by
    rcases List.mem_cons.mp h with h | h
    · cases h
      exact ⟨0, rfl, rfl⟩
    · obtain ⟨i, h1, h2⟩ := lvA_of r (o + 1) j v h
      exact ⟨i + 1, by omega, by simpa using h2⟩
theorem lvA_has {ls : Array Slot} {nL : Nat} {lv : List (Option Value)} {l : List (Nat × Value)} (h : lv_has ls nL l) (hl : ∀ i v, lv[i]? = some (some v) → (i, v) ∈ l) : lv_has ls nL (lvA 0 lv) := ⟨h.1, h.2.1, fun q hq => by
  obtain ⟨i, h1, h2⟩ := lvA_of lv 0 q.1 q.2 hq
  rw [h1]
  exact h.2.2 (0 + i, q.2) (by rw [Nat.zero_add]; exact hl i q.2 h2)⟩
theorem lvA_at {ls : Array Slot} {nL : Nat} {lv : List (Option Value)} {i : Nat} {v : Value} (h : lv_has ls nL (lvA 0 lv)) (hi : lv[i]? = some (some v)) : ls[i]? = some (.val v) := by
  have := h.2.2 (0 + i, v) (lvA_mem lv 0 i v hi)
  rwa [Nat.zero_add] at this
/-- fewer locals known -/
def lvLe : List (Option Value) → List (Option Value) → Prop
  | [], _ => True
  | none :: a, [] => lvLe a []
  | none :: a, _ :: b => lvLe a b
  | some _ :: _, [] => False
  | some v :: a, x :: b => x = some v ∧ lvLe a b
theorem lvLe_at : ∀ {a b : List (Option Value)} {i : Nat} {v : Value}, lvLe a b → a[i]? = some (some v) → b[i]? = some (some v)
  | [], _, i, v, _, h => by simp at h
  | none :: a, [], 0, v, _, h => by simp at h
  | none :: a, [], i + 1, v, hl, h => by
    have := lvLe_at (a := a) (b := []) (i := i) (v := v) hl (by simpa using h)
    simp at this
  | none :: a, _ :: b, 0, v, _, h => by simp at h
  | none :: a, _ :: b, i + 1, v, hl, h => by
    have := lvLe_at (a := a) (b := b) (i := i) (v := v) hl (by simpa using h)
    simpa using this
  | some w :: a, [], i, v, hl, h => hl.elim
  | some w :: a, x :: b, 0, v, hl, h => by
    simp at h
    subst h
    simp [hl.1]
  | some w :: a, x :: b, i + 1, v, hl, h => by
    have := lvLe_at (a := a) (b := b) (i := i) (v := v) hl.2 (by simpa using h)
    simpa using this
def lvOk (lv : List (Option Value)) : Nat → Bool
  | 0 => true
  | i + 1 => match lv[i]? with
    | some (some v) => v.category == 1
    | _ => true
theorem lvA_set {ls : Array Slot} {nL i : Nat} {x : Value} {lv : List (Option Value)} (hok : lvOk lv i = true) (h : lv_has ls nL ((i, x) :: (lvA 0 lv).filter (fun q => !(q.1 == i) && !(q.1 + 1 == i && q.2.category == 2)))) : lv_has ls nL (lvA 0 (lv.set i (some x))) := lvA_has h fun j v hj => by
  rw [List.getElem?_set] at hj
  by_cases e : i = j
  · subst e
    rw [if_pos rfl] at hj
    by_cases hl : i < lv.length
    · rw [if_pos hl] at hj
      cases hj
      exact List.mem_cons_self
    · rw [if_neg hl] at hj
      cases hj
  · rw [if_neg e] at hj
    refine List.mem_cons_of_mem _ (List.mem_filter.mpr ⟨by have := lvA_mem lv 0 j v hj; rwa [Nat.zero_add] at this, ?_⟩)
    have e1 : (j == i) = false := by simp; omega
    simp only [e1, Bool.not_false, Bool.true_and]
    by_cases e2 : j + 1 = i
    · subst e2
      simp only [lvOk, hj] at hok
      simp at hok
      simp [hok]
    · simp [e2]
theorem lvA_setL {ls : Array Slot} {nL i : Nat} {x : Value} {lv : List (Option Value)} (hok : lvOk lv i = true) (h : lv_has ls nL ((i, x) :: (lvA 0 lv).filter (fun q => !(q.1 == i) && (!(q.1 == i + 1) && !(q.1 + 1 == i && q.2.category == 2))))) : lv_has ls nL (lvA 0 ((lv.set i (some x)).set (i + 1) none)) := lvA_has h fun j v hj => by
  rw [List.getElem?_set] at hj
  by_cases e0 : i + 1 = j
  · subst e0
    rw [if_pos rfl] at hj
    split at hj <;> simp at hj
  rw [if_neg e0, List.getElem?_set] at hj
  by_cases e : i = j
  · subst e
    rw [if_pos rfl] at hj
    by_cases hl : i < lv.length
    · rw [if_pos hl] at hj
      cases hj
      exact List.mem_cons_self
    · rw [if_neg hl] at hj
      cases hj
  · rw [if_neg e] at hj
    refine List.mem_cons_of_mem _ (List.mem_filter.mpr ⟨by have := lvA_mem lv 0 j v hj; rwa [Nat.zero_add] at this, ?_⟩)
    have e1 : (j == i) = false := by simp; omega
    have e3 : (j == i + 1) = false := by simp; omega
    simp only [e1, e3, Bool.not_false, Bool.true_and]
    by_cases e2 : j + 1 = i
    · subst e2
      simp only [lvOk, hj] at hok
      simp at hok
      simp [hok]
    · simp [e2]
def V (C : Cx) (kc ks : Nat) (gs : List va_W) (pc : Nat) (lv : List (Option Value)) (st : List Value) : Prop :=
  ∀ (H : Heap) (locs : List Loc) (ls : Array Slot), va_P (CG C).1 vwCl gs.flatten H → va_D (CA C) gs.flatten → va_S (CA C) (Cs C).heap H locs → lv_has ls (CL C) (lvA 0 lv) →
    W (Cp C) (Cl C) (Ce C) (CR C) (Cs C) (Cm C) (Ca C) (Cb C) (Cme C) (Cc C) H locs kc ks (CQ C) (F0 (Cm C) pc ls st)
def OK (C : Cx) (cc : ByteArray) (own : String) (nL : Nat) (R : Room) (G : mvG) : Prop :=
  (Cp C).tables.exec = Jvm.exec ∧ (Cc C).code = cc ∧ (Cc C).maxLocals = CL C ∧ (Cs C).vm.findClass own = some (Cm C).cls ∧ (∀ w ∈ TB, w.before (Ca C) (Cs C) = true) ∧ va_K G.1 vwCl (TY G.2.1) (Cs C) ∧ mvNT (Cs C) ∧ mvSZ G.2.2 (CA C) (Cs C) (Cs C).heap ∧ (∀ q, (Cs C).heap.size ≤ q → CA C q) ∧ CL C = nL ∧ CR C = R ∧ CG C = G
theorem mv_flat : ∀ {gs : List va_W} {i j : Nat} {g : va_W} {q : Nat × va_E}, gs[i]? = some g → g[j]? = some q → ∃ n, gs.flatten[n]? = some q ∧ ∀ q', gs.flatten.set n q' = (gs.set i (g.set j q')).flatten
  | [], i, j, g, q, h, _ => by simp at h
  | x :: r, 0, j, g, q, h, hj => by
    simp at h
    subst h
    have hl : j < x.length := (List.getElem?_eq_some_iff.mp hj).1
    refine ⟨j, ?_, fun q' => ?_⟩
    · rw [List.flatten_cons, List.getElem?_append_left hl]
      exact hj
    · simp [List.flatten_cons, List.set_append, hl]
  | x :: r, i + 1, j, g, q, h, hj => by
    obtain ⟨n, h1, h2⟩ := mv_flat (gs := r) (i := i) (by simpa using h) hj
    refine ⟨x.length + n, ?_, fun q' => ?_⟩
    · rw [List.flatten_cons, List.getElem?_append_right (by omega)]
      simpa using h1
    · rw [List.set_cons_succ, List.flatten_cons, List.flatten_cons, List.set_append, if_neg (by omega), Nat.add_sub_cancel_left, h2]
section VROWS
variable {C : Cx} {cc : ByteArray} {own : String} {nL : Nat} {R : Room} {G : mvG} {kc ks : Nat} {gs : List va_W} {pc : Nat} {lv : List (Option Value)} {st : List Value}
theorem V_weak {lv' : List (Option Value)} (h : lvLe lv' lv) (k : V C kc ks gs pc lv' st) : V C kc ks gs pc lv st := fun H locs ls hP hD hS hl => k H locs ls hP hD hS (lvA_has hl fun i v hi => by have := lvA_mem lv 0 i v (lvLe_at h hi); rwa [Nat.zero_add] at this)
theorem V_widen {k n : Nat} (h1 : kc ≤ k) (h2 : ks ≤ n) (kk : V C k n gs pc lv st) : V C kc ks gs pc lv st := fun H locs ls hP hD hS hl => W.widen h1 h2 (kk H locs ls hP hD hS hl)
theorem V_iconst (X : OK C cc own nL R G) {n : Int} (v : Int32) (d : decode cc pc = .ok (.iconst n, 1)) (hv : Int32.ofInt n = v) (k : V C kc ks gs (pc + 1) lv (.int v :: st)) : V C kc ks gs pc lv st := fun H locs ls hP hD hS hl => lv_iconst X.1 X.2.1 d hv (k H locs ls hP hD hS hl)
theorem V_bipush (X : OK C cc own nL R G) {n : Int} (v : Int32) (d : decode cc pc = .ok (.bipush n, 2)) (hv : (Int8.ofInt n).toInt32 = v) (k : V C kc ks gs (pc + 2) lv (.int v :: st)) : V C kc ks gs pc lv st := fun H locs ls hP hD hS hl => lv_bipush X.1 X.2.1 d hv (k H locs ls hP hD hS hl)
theorem V_sipush (X : OK C cc own nL R G) {n : Int} (v : Int32) (d : decode cc pc = .ok (.sipush n, 3)) (hv : (Int16.ofInt n).toInt32 = v) (k : V C kc ks gs (pc + 3) lv (.int v :: st)) : V C kc ks gs pc lv st := fun H locs ls hP hD hS hl => lv_sipush X.1 X.2.1 d hv (k H locs ls hP hD hS hl)
theorem V_ldc (X : OK C cc own nL R G) {i : Nat} {v : Int32} (hc : Cond.constant own i v ∈ TB) (d : decode cc pc = .ok (.ldc i, 2)) (k : V C kc ks gs (pc + 2) lv (.int v :: st)) : V C kc ks gs pc lv st := fun H locs ls hP hD hS hl => lv_ldc X.1 X.2.1 X.2.2.2.1 (X.2.2.2.2.1 _ hc) d (k H locs ls hP hD hS hl)
theorem V_ldc2 (X : OK C cc own nL R G) {i : Nat} {v : Int64} (hc : Cond.constantLong own i v ∈ TB) (d : decode cc pc = .ok (.ldc2_w i, 3)) (k : V C kc ks gs (pc + 3) lv (.long v :: st)) : V C kc ks gs pc lv st := fun H locs ls hP hD hS hl => lv_ldc2 X.1 X.2.1 X.2.2.2.1 (X.2.2.2.2.1 _ hc) d (k H locs ls hP hD hS hl)
theorem V_lconst (X : OK C cc own nL R G) {n : Fin 2} (v : Int64) (d : decode cc pc = .ok (.lconst n, 1)) (hv : Int64.ofNat (n : Nat) = v) (k : V C kc ks gs (pc + 1) lv (.long v :: st)) : V C kc ks gs pc lv st := fun H locs ls hP hD hS hl => lv_lconst X.1 X.2.1 d hv (k H locs ls hP hD hS hl)
theorem V_null (X : OK C cc own nL R G) (d : decode cc pc = .ok (.aconst_null, 1)) (k : V C kc ks gs (pc + 1) lv (.null :: st)) : V C kc ks gs pc lv st := fun H locs ls hP hD hS hl => lv_null X.1 X.2.1 d (k H locs ls hP hD hS hl)
theorem V_iload_n (X : OK C cc own nL R G) {i : Fin 4} {x : Int32} (d : decode cc pc = .ok (.iload_n i, 1)) (hi : lv[(i : Nat)]? = some (some (.int x))) (k : V C kc ks gs (pc + 1) lv (.int x :: st)) : V C kc ks gs pc lv st := fun H locs ls hP hD hS hl => lv_iload_n X.1 X.2.1 d rfl (lvA_at hl hi) (k H locs ls hP hD hS hl)
theorem V_iload (X : OK C cc own nL R G) {i : Nat} {x : Int32} (d : decode cc pc = .ok (.iload i, 2)) (hi : lv[i]? = some (some (.int x))) (k : V C kc ks gs (pc + 2) lv (.int x :: st)) : V C kc ks gs pc lv st := fun H locs ls hP hD hS hl => lv_iload X.1 X.2.1 d (lvA_at hl hi) (k H locs ls hP hD hS hl)
theorem V_lload_n (X : OK C cc own nL R G) {i : Fin 4} {x : Int64} (d : decode cc pc = .ok (.lload_n i, 1)) (hi : lv[(i : Nat)]? = some (some (.long x))) (k : V C kc ks gs (pc + 1) lv (.long x :: st)) : V C kc ks gs pc lv st := fun H locs ls hP hD hS hl => lv_lload_n X.1 X.2.1 d rfl (lvA_at hl hi) (k H locs ls hP hD hS hl)
theorem V_lload (X : OK C cc own nL R G) {i : Nat} {x : Int64} (d : decode cc pc = .ok (.lload i, 2)) (hi : lv[i]? = some (some (.long x))) (k : V C kc ks gs (pc + 2) lv (.long x :: st)) : V C kc ks gs pc lv st := fun H locs ls hP hD hS hl => lv_lload X.1 X.2.1 d (lvA_at hl hi) (k H locs ls hP hD hS hl)
theorem V_aload_n (X : OK C cc own nL R G) {i : Fin 4} {x : Nat} (d : decode cc pc = .ok (.aload_n i, 1)) (hi : lv[(i : Nat)]? = some (some (.ref x))) (k : V C kc ks gs (pc + 1) lv (.ref x :: st)) : V C kc ks gs pc lv st := fun H locs ls hP hD hS hl => lv_aload_n X.1 X.2.1 d rfl (lvA_at hl hi) (k H locs ls hP hD hS hl)
theorem V_aload (X : OK C cc own nL R G) {i : Nat} {x : Nat} (d : decode cc pc = .ok (.aload i, 2)) (hi : lv[i]? = some (some (.ref x))) (k : V C kc ks gs (pc + 2) lv (.ref x :: st)) : V C kc ks gs pc lv st := fun H locs ls hP hD hS hl => lv_aload X.1 X.2.1 d (lvA_at hl hi) (k H locs ls hP hD hS hl)
theorem V_aload_nN (X : OK C cc own nL R G) {i : Fin 4} (d : decode cc pc = .ok (.aload_n i, 1)) (hi : lv[(i : Nat)]? = some (some .null)) (k : V C kc ks gs (pc + 1) lv (.null :: st)) : V C kc ks gs pc lv st := fun H locs ls hP hD hS hl => lv_aload_nN X.1 X.2.1 d rfl (lvA_at hl hi) (k H locs ls hP hD hS hl)
theorem V_istore_n (X : OK C cc own nL R G) {i : Fin 4} {x : Int32} (d : decode cc pc = .ok (.istore_n i, 1)) (hn : (i : Nat) < nL) (hok : lvOk lv i = true) (k : V C kc ks gs (pc + 1) (lv.set i (some (.int x))) st) : V C kc ks gs pc lv (.int x :: st) := fun H locs ls hP hD hS hl => lv_istore_n X.1 X.2.1 d rfl hl (by rw [X.2.2.2.2.2.2.2.2.2.1]; exact hn) rfl (fun ls' h' => k H locs ls' hP hD hS (lvA_set hok h'))
theorem V_istore (X : OK C cc own nL R G) {i : Nat} {x : Int32} (d : decode cc pc = .ok (.istore i, 2)) (hn : (i : Nat) < nL) (hok : lvOk lv i = true) (k : V C kc ks gs (pc + 2) (lv.set i (some (.int x))) st) : V C kc ks gs pc lv (.int x :: st) := fun H locs ls hP hD hS hl => lv_istore X.1 X.2.1 d hl (by rw [X.2.2.2.2.2.2.2.2.2.1]; exact hn) rfl (fun ls' h' => k H locs ls' hP hD hS (lvA_set hok h'))
theorem V_astore_n (X : OK C cc own nL R G) {i : Fin 4} {x : Nat} (d : decode cc pc = .ok (.astore_n i, 1)) (hn : (i : Nat) < nL) (hok : lvOk lv i = true) (k : V C kc ks gs (pc + 1) (lv.set i (some (.ref x))) st) : V C kc ks gs pc lv (.ref x :: st) := fun H locs ls hP hD hS hl => lv_astore_n X.1 X.2.1 d rfl hl (by rw [X.2.2.2.2.2.2.2.2.2.1]; exact hn) rfl (fun ls' h' => k H locs ls' hP hD hS (lvA_set hok h'))
theorem V_astore_nN (X : OK C cc own nL R G) {i : Fin 4} (d : decode cc pc = .ok (.astore_n i, 1)) (hn : (i : Nat) < nL) (hok : lvOk lv i = true) (k : V C kc ks gs (pc + 1) (lv.set i (some .null)) st) : V C kc ks gs pc lv (.null :: st) := fun H locs ls hP hD hS hl => lv_astore_nN X.1 X.2.1 d rfl hl (by rw [X.2.2.2.2.2.2.2.2.2.1]; exact hn) rfl (fun ls' h' => k H locs ls' hP hD hS (lvA_set hok h'))
theorem V_lstore_n (X : OK C cc own nL R G) {i : Fin 4} {x : Int64} (d : decode cc pc = .ok (.lstore_n i, 1)) (hn : (i : Nat) + 1 < nL) (hok : lvOk lv i = true) (k : V C kc ks gs (pc + 1) ((lv.set i (some (.long x))).set (i + 1) none) st) : V C kc ks gs pc lv (.long x :: st) := fun H locs ls hP hD hS hl => lv_lstore_n X.1 X.2.1 d rfl hl (by rw [X.2.2.2.2.2.2.2.2.2.1]; exact hn) rfl (fun ls' h' => k H locs ls' hP hD hS (lvA_setL hok h'))
theorem V_lstore (X : OK C cc own nL R G) {i : Nat} {x : Int64} (d : decode cc pc = .ok (.lstore i, 2)) (hn : (i : Nat) + 1 < nL) (hok : lvOk lv i = true) (k : V C kc ks gs (pc + 2) ((lv.set i (some (.long x))).set (i + 1) none) st) : V C kc ks gs pc lv (.long x :: st) := fun H locs ls hP hD hS hl => lv_lstore X.1 X.2.1 d hl (by rw [X.2.2.2.2.2.2.2.2.2.1]; exact hn) rfl (fun ls' h' => k H locs ls' hP hD hS (lvA_setL hok h'))
theorem V_iinc (X : OK C cc own nL R G) {i : Nat} {n : Int} {x : Int32} (v : Int32) (d : decode cc pc = .ok (.iinc i n, 3)) (hi : lv[i]? = some (some (.int x))) (hv : x + Int32.ofInt n = v) (hn : i < nL) (hok : lvOk lv i = true) (k : V C kc ks gs (pc + 3) (lv.set i (some (.int v))) st) : V C kc ks gs pc lv st := fun H locs ls hP hD hS hl => by
  have h1 := lvA_mem lv 0 i _ hi
  rw [Nat.zero_add] at h1
  obtain ⟨j, hj⟩ := List.getElem?_of_mem h1
  exact lv_iinc X.1 X.2.1 d hl hj hv (by rw [X.2.2.2.2.2.2.2.2.2.1]; exact hn) rfl (fun ls' h' => k H locs ls' hP hD hS (lvA_set hok h'))
theorem V_iadd (X : OK C cc own nL R G) {x y : Int32} (d : decode cc pc = .ok (.iadd, 1)) (k : V C kc ks gs (pc + 1) lv (.int (x + y) :: st)) : V C kc ks gs pc lv (.int y :: .int x :: st) := fun H locs ls hP hD hS hl => lv_iadd X.1 X.2.1 d (k H locs ls hP hD hS hl)
theorem V_isub (X : OK C cc own nL R G) {x y : Int32} (d : decode cc pc = .ok (.isub, 1)) (k : V C kc ks gs (pc + 1) lv (.int (x - y) :: st)) : V C kc ks gs pc lv (.int y :: .int x :: st) := fun H locs ls hP hD hS hl => lv_isub X.1 X.2.1 d (k H locs ls hP hD hS hl)
theorem V_imul (X : OK C cc own nL R G) {x y : Int32} (d : decode cc pc = .ok (.imul, 1)) (k : V C kc ks gs (pc + 1) lv (.int (x * y) :: st)) : V C kc ks gs pc lv (.int y :: .int x :: st) := fun H locs ls hP hD hS hl => lv_imul X.1 X.2.1 d (k H locs ls hP hD hS hl)
theorem V_dup (X : OK C cc own nL R G) {v : Value} (d : decode cc pc = .ok (.dup, 1)) (hc : v.category = 1) (k : V C kc ks gs (pc + 1) lv (v :: v :: st)) : V C kc ks gs pc lv (v :: st) := fun H locs ls hP hD hS hl => lv_dup X.1 X.2.1 d hc (k H locs ls hP hD hS hl)
theorem V_goto (X : OK C cc own nL R G) {o : Int} (tgt : Nat) (d : decode cc pc = .ok (.goto o, 3)) (ht : (pc : Int) + o = (tgt : Int)) (k : V C kc ks gs tgt lv st) : V C kc ks gs pc lv st := fun H locs ls hP hD hS hl => lv_goto X.1 X.2.1 d ht (k H locs ls hP hD hS hl)
theorem V_if_lt (X : OK C cc own nL R G) {x : Int32} {o : Int} (tgt : Nat) (d : decode cc pc = .ok (.ifCond .lt o, 3)) (ht : (pc : Int) + o = (tgt : Int)) (kt : x < 0 → V C kc ks gs tgt lv st) (kf : ¬ x < 0 → V C kc ks gs (pc + 3) lv st) : V C kc ks gs pc lv (.int x :: st) := fun H locs ls hP hD hS hl => lv_if_lt X.1 X.2.1 d ht (fun c => kt c H locs ls hP hD hS hl) (fun c => kf c H locs ls hP hD hS hl)
theorem V_icmp_ge (X : OK C cc own nL R G) {x y : Int32} {o : Int} (tgt : Nat) (d : decode cc pc = .ok (.if_icmp .ge o, 3)) (ht : (pc : Int) + o = (tgt : Int)) (kt : y ≤ x → V C kc ks gs tgt lv st) (kf : ¬ y ≤ x → V C kc ks gs (pc + 3) lv st) : V C kc ks gs pc lv (.int y :: .int x :: st) := fun H locs ls hP hD hS hl => lv_icmp_ge X.1 X.2.1 d ht (fun c => kt c H locs ls hP hD hS hl) (fun c => kf c H locs ls hP hD hS hl)
end VROWS
