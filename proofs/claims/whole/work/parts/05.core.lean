/-- a state: rows of numbers; a field is place 0 of its row -/
abbrev St : Type := Nat → Nat → Int32
def sr (X : St) (a : Nat) (f : Nat → Int32) : St := fun i => if i = a then f else X i
def ux (X : St) (a k : Nat) (v : Int32) : St := sr X a (upd (X a) k v)
theorem sr_s (X : St) (a : Nat) (f : Nat → Int32) : sr X a f a = f := if_pos rfl
theorem sr_n (X : St) {a b : Nat} (f : Nat → Int32) (h : b ≠ a) : sr X a f b = X b := if_neg h
theorem sr_sr (X : St) (a : Nat) (f g : Nat → Int32) : sr (sr X a f) a g = sr X a g := by
  funext i
  by_cases h : i = a <;> simp [sr, h]
theorem sr_self (X : St) (a : Nat) : sr X a (X a) = X := by
  funext i
  by_cases h : i = a
  · subst h; simp [sr]
  · simp [sr, h]
theorem sr_comm (X : St) {a b : Nat} (f g : Nat → Int32) (h : a ≠ b) : sr (sr X a f) b g = sr (sr X b g) a f := by
  funext i
  by_cases h1 : i = a
  · subst h1
    simp [sr, h]
  · by_cases h2 : i = b <;> simp [sr, h1, h2]
    intro h3
    exact absurd (h2.trans h3) h1
abbrev ix (i : Int32) : Nat := i.toNatClampNeg
def rL (d : Nat) : Room := { frames := d, cells := 0, slots := 0, locals := 40 * d }
abbrev Cx : Type := Program × Launch × Env × Room × State × MethodId × Array Value × List Frame × Method × Code × (State → Prop) × va_G × (Nat → Prop)
def WX (K : Cx) (wf : St → va_W) (nL : Nat) (X : St) (pc : Nat) (lv : List (Nat × Value)) (st : List Value) : Prop := match K with
  | (p, l, e, R, s, m, args, below, meth, c, Q, D, A) => ∀ (H : Heap) (locs : List Loc) (ls : Array Slot), va_P D vwCl (wf X) H → va_S A s.heap H locs → lv_has ls nL lv → W p l e R s m args below meth c H locs 0 0 Q (F0 m pc ls st)
def XC (K : Cx) (wf : St → va_W) (nL : Nat) (cc : ByteArray) (own : String) (d : Nat) (tys : List (ClassId × FieldType)) : Prop := match K with
  | (p, l, e, R, s, m, args, below, meth, c, Q, D, A) => p.tables.exec = Jvm.exec ∧ c.code = cc ∧ c.maxLocals = nL ∧ s.vm.findClass own = some m.cls ∧ (∀ w ∈ tA, w.before args s = true) ∧ R = rL d ∧ va_K D vwCl tys s ∧ (∀ X, va_D A (wf X)) ∧ (∀ q, s.heap.size ≤ q → A q)
/-- the addresses of a world don't hang on its state -/
def wfA (wf : St → va_W) : Prop := ∀ X Y : St, (wf X).map Prod.fst = (wf Y).map Prod.fst
theorem adr_get {w1 w2 : va_W} (h : w1.map Prod.fst = w2.map Prod.fst) {k : Nat} {q : Nat × va_E} (hq : w1[k]? = some q) : ∃ e, w2[k]? = some (q.1, e) := by
  have h1 : (w1.map Prod.fst)[k]? = some q.1 := by rw [List.getElem?_map, hq]; rfl
  rw [h, List.getElem?_map] at h1
  cases h2 : w2[k]? with
  | none => rw [h2] at h1; cases h1
  | some x =>
    rw [h2] at h1
    have h3 : x.1 = q.1 := Option.some.inj h1
    exact ⟨x.2, by rw [← h3]⟩
theorem va_D.adr {A : Nat → Prop} {w1 w2 : va_W} (h : w1.map Prod.fst = w2.map Prod.fst) (hD : va_D A w1) : va_D A w2 := by
  refine ⟨fun i j p q hi hj hpq => ?_, fun k q hq => ?_⟩
  · obtain ⟨e1, h1⟩ := adr_get h.symm hi
    obtain ⟨e2, h2⟩ := adr_get h.symm hj
    exact hD.1 i j _ _ h1 h2 hpq
  · obtain ⟨e, h1⟩ := adr_get h.symm hq
    exact hD.2 k (q.1, e) h1
theorem lw_gd {w : Cond} (h : w ∈ tA) : (w.onTables && w.keeps) = true ∨ ∃ ty, w = .arrayClass ty := good_of_word (tA_gd h)
theorem lw_gi {ws : List Cond} (h : ∀ w ∈ ws, w ∈ tA) : GoodIn tA ws := fun w hw => ⟨h w hw, lw_gd (h w hw)⟩
/-- contracts over a world -/
def PcX (avs : List Value) (wf : St → va_W) (D : va_G) (tys : List (ClassId × FieldType)) (X : St) (sz : Nat) : Array Value → State → Prop := va_Pc avs (fun U => U.heap.size = sz ∧ va_P D vwCl (wf X) U.heap ∧ va_K D vwCl tys U ∧ va_D (fun _ => True) (wf X))
def Ci (l : Launch) (y : MethodName) (cc : ByteArray) (nL : Nat) (ret : Option FieldType) (d : Nat) (wf : St → va_W) (D : va_G) (tys : List (ClassId × FieldType)) (avs : List Value) (X : St) (post : Int32 → St → Prop) : Prop := ∀ sz : Nat, Met l y (.code y cc nL ret :: tA) (rL d) (PcX avs wf D tys X sz) (va_Qi post (fun u t => va_P D vwCl (wf u) t.heap) (va_A (wf X) sz)) 0 0 (va_A (wf X) sz)
def Cl (l : Launch) (y : MethodName) (cc : ByteArray) (nL : Nat) (ret : Option FieldType) (d : Nat) (wf : St → va_W) (D : va_G) (tys : List (ClassId × FieldType)) (avs : List Value) (X : St) (post : Int64 → St → Prop) : Prop := ∀ sz : Nat, Met l y (.code y cc nL ret :: tA) (rL d) (PcX avs wf D tys X sz) (va_Ql post (fun u t => va_P D vwCl (wf u) t.heap) (va_A (wf X) sz)) 0 0 (va_A (wf X) sz)
def Cv (l : Launch) (y : MethodName) (cc : ByteArray) (nL : Nat) (ret : Option FieldType) (d : Nat) (wf : St → va_W) (D : va_G) (tys : List (ClassId × FieldType)) (avs : List Value) (X : St) (post : St → Prop) : Prop := ∀ sz : Nat, Met l y (.code y cc nL ret :: tA) (rL d) (PcX avs wf D tys X sz) (va_Qv post (fun u t => va_P D vwCl (wf u) t.heap) (va_A (wf X) sz)) 0 0 (va_A (wf X) sz)
theorem PcX_blind {avs : List Value} {wf : St → va_W} {D : va_G} {tys : List (ClassId × FieldType)} {X : St} {sz : Nat} : FrameBlind (PcX avs wf D tys X sz) := fun a U g mk q => by
  obtain ⟨q0, q1, qP, qK, qD⟩ := q
  exact ⟨q0, q1, qP, va_K.moved (u := U) (U := U.calling g mk a) (Vm.Alike.refl U.vm) qK, qD⟩
section XR
variable {K : Cx} {wf : St → va_W} {nL : Nat} {cc : ByteArray} {own : String} {d : Nat} {tys : List (ClassId × FieldType)} {X : St} {pc : Nat} {lv : List (Nat × Value)} {rest : List Value}
theorem x_iconst (C : XC K wf nL cc own d tys) {n : Int} {v : Int32} (hd : decode cc pc = .ok (.iconst n, 1)) (hv : Int32.ofInt n = v) (k : WX K wf nL X (pc + 1) lv (.int v :: rest)) : WX K wf nL X pc lv (rest) := by
  obtain ⟨p, l, e, R, s, m, args, below, meth, c, Q, D, A⟩ := K
  exact fun H locs ls hP hS hl => lv_iconst C.1 C.2.1 hd hv (k H locs ls hP hS hl)
theorem x_bipush (C : XC K wf nL cc own d tys) {n : Int} {v : Int32} (hd : decode cc pc = .ok (.bipush n, 2)) (hv : (Int8.ofInt n).toInt32 = v) (k : WX K wf nL X (pc + 2) lv (.int v :: rest)) : WX K wf nL X pc lv (rest) := by
  obtain ⟨p, l, e, R, s, m, args, below, meth, c, Q, D, A⟩ := K
  exact fun H locs ls hP hS hl => lv_bipush C.1 C.2.1 hd hv (k H locs ls hP hS hl)
theorem x_sipush (C : XC K wf nL cc own d tys) {n : Int} {v : Int32} (hd : decode cc pc = .ok (.sipush n, 3)) (hv : (Int16.ofInt n).toInt32 = v) (k : WX K wf nL X (pc + 3) lv (.int v :: rest)) : WX K wf nL X pc lv (rest) := by
  obtain ⟨p, l, e, R, s, m, args, below, meth, c, Q, D, A⟩ := K
  exact fun H locs ls hP hS hl => lv_sipush C.1 C.2.1 hd hv (k H locs ls hP hS hl)
theorem x_lconst (C : XC K wf nL cc own d tys) {n : Fin 2} {v : Int64} (hd : decode cc pc = .ok (.lconst n, 1)) (hv : Int64.ofNat (n : Nat) = v) (k : WX K wf nL X (pc + 1) lv (.long v :: rest)) : WX K wf nL X pc lv (rest) := by
  obtain ⟨p, l, e, R, s, m, args, below, meth, c, Q, D, A⟩ := K
  exact fun H locs ls hP hS hl => lv_lconst C.1 C.2.1 hd hv (k H locs ls hP hS hl)
theorem x_ldc (C : XC K wf nL cc own d tys) {index : Nat} {v : Int32} (hd : decode cc pc = .ok (.ldc index, 2)) (hc : Cond.constant own index v ∈ tA) (k : WX K wf nL X (pc + 2) lv (.int v :: rest)) : WX K wf nL X pc lv rest := by
  obtain ⟨p, l, e, R, s, m, args, below, meth, c, Q, D, A⟩ := K
  exact fun H locs ls hP hS hl => lv_ldc C.1 C.2.1 C.2.2.2.1 (C.2.2.2.2.1 _ hc) hd (k H locs ls hP hS hl)
theorem x_ldc2 (C : XC K wf nL cc own d tys) {index : Nat} {v : Int64} (hd : decode cc pc = .ok (.ldc2_w index, 3)) (hc : Cond.constantLong own index v ∈ tA) (k : WX K wf nL X (pc + 3) lv (.long v :: rest)) : WX K wf nL X pc lv rest := by
  obtain ⟨p, l, e, R, s, m, args, below, meth, c, Q, D, A⟩ := K
  exact fun H locs ls hP hS hl => lv_ldc2 C.1 C.2.1 C.2.2.2.1 (C.2.2.2.2.1 _ hc) hd (k H locs ls hP hS hl)
theorem x_iload_n (C : XC K wf nL cc own d tys) {k : Fin 4} {i : Nat} {x : Int32} (hd : decode cc pc = .ok (.iload_n k, 1)) (q : Nat) (hi : (k : Nat) = i) (hq : lv[q]? = some (i, .int x)) (kk : WX K wf nL X (pc + 1) lv (.int x :: rest)) : WX K wf nL X pc lv rest := by
  obtain ⟨p, l, e, R, s, m, args, below, meth, c, Q, D, A⟩ := K
  exact fun H locs ls hP hS hl => lv_iload_n C.1 C.2.1 hd hi (lv_at hl q hq) (kk H locs ls hP hS hl)
theorem x_iload (C : XC K wf nL cc own d tys) {i : Nat} {x : Int32} (hd : decode cc pc = .ok (.iload i, 2)) (q : Nat) (hq : lv[q]? = some (i, .int x)) (kk : WX K wf nL X (pc + 2) lv (.int x :: rest)) : WX K wf nL X pc lv rest := by
  obtain ⟨p, l, e, R, s, m, args, below, meth, c, Q, D, A⟩ := K
  exact fun H locs ls hP hS hl => lv_iload C.1 C.2.1 hd (lv_at hl q hq) (kk H locs ls hP hS hl)
theorem x_lload_n (C : XC K wf nL cc own d tys) {k : Fin 4} {i : Nat} {x : Int64} (hd : decode cc pc = .ok (.lload_n k, 1)) (q : Nat) (hi : (k : Nat) = i) (hq : lv[q]? = some (i, .long x)) (kk : WX K wf nL X (pc + 1) lv (.long x :: rest)) : WX K wf nL X pc lv rest := by
  obtain ⟨p, l, e, R, s, m, args, below, meth, c, Q, D, A⟩ := K
  exact fun H locs ls hP hS hl => lv_lload_n C.1 C.2.1 hd hi (lv_at hl q hq) (kk H locs ls hP hS hl)
theorem x_lload (C : XC K wf nL cc own d tys) {i : Nat} {x : Int64} (hd : decode cc pc = .ok (.lload i, 2)) (q : Nat) (hq : lv[q]? = some (i, .long x)) (kk : WX K wf nL X (pc + 2) lv (.long x :: rest)) : WX K wf nL X pc lv rest := by
  obtain ⟨p, l, e, R, s, m, args, below, meth, c, Q, D, A⟩ := K
  exact fun H locs ls hP hS hl => lv_lload C.1 C.2.1 hd (lv_at hl q hq) (kk H locs ls hP hS hl)
theorem x_aload_n (C : XC K wf nL cc own d tys) {k : Fin 4} {i : Nat} {x : Nat} (hd : decode cc pc = .ok (.aload_n k, 1)) (q : Nat) (hi : (k : Nat) = i) (hq : lv[q]? = some (i, .ref x)) (kk : WX K wf nL X (pc + 1) lv (.ref x :: rest)) : WX K wf nL X pc lv rest := by
  obtain ⟨p, l, e, R, s, m, args, below, meth, c, Q, D, A⟩ := K
  exact fun H locs ls hP hS hl => lv_aload_n C.1 C.2.1 hd hi (lv_at hl q hq) (kk H locs ls hP hS hl)
theorem x_aload (C : XC K wf nL cc own d tys) {i : Nat} {x : Nat} (hd : decode cc pc = .ok (.aload i, 2)) (q : Nat) (hq : lv[q]? = some (i, .ref x)) (kk : WX K wf nL X (pc + 2) lv (.ref x :: rest)) : WX K wf nL X pc lv rest := by
  obtain ⟨p, l, e, R, s, m, args, below, meth, c, Q, D, A⟩ := K
  exact fun H locs ls hP hS hl => lv_aload C.1 C.2.1 hd (lv_at hl q hq) (kk H locs ls hP hS hl)
theorem x_istore_n (C : XC K wf nL cc own d tys) {k : Fin 4} {i : Nat} {x : Int32} (hd : decode cc pc = .ok (.istore_n k, 1)) (lv1 : List (Nat × Value)) (ks : List Nat) (hi : (k : Nat) = i) (hn : i < nL) (hl1 : lv_pick ((i, Value.int x) :: lv.filter (fun q => !(q.1 == i) && !(q.1 + 1 == i && q.2.category == 2))) ks = lv1) (kk : WX K wf nL X (pc + 1) lv1 rest) : WX K wf nL X pc lv (.int x :: rest) := by
  obtain ⟨p, l, e, R, s, m, args, below, meth, c, Q, D, A⟩ := K
  exact fun H locs ls hP hS hl => lv_istore_n C.1 C.2.1 hd hi hl hn rfl (fun ls1 h1 => kk H locs ls1 hP hS (lv_sub h1 ks hl1))
theorem x_istore (C : XC K wf nL cc own d tys) {i : Nat} {x : Int32} (hd : decode cc pc = .ok (.istore i, 2)) (lv1 : List (Nat × Value)) (ks : List Nat) (hn : i < nL) (hl1 : lv_pick ((i, Value.int x) :: lv.filter (fun q => !(q.1 == i) && !(q.1 + 1 == i && q.2.category == 2))) ks = lv1) (kk : WX K wf nL X (pc + 2) lv1 rest) : WX K wf nL X pc lv (.int x :: rest) := by
  obtain ⟨p, l, e, R, s, m, args, below, meth, c, Q, D, A⟩ := K
  exact fun H locs ls hP hS hl => lv_istore C.1 C.2.1 hd hl hn rfl (fun ls1 h1 => kk H locs ls1 hP hS (lv_sub h1 ks hl1))
theorem x_lstore_n (C : XC K wf nL cc own d tys) {k : Fin 4} {i : Nat} {x : Int64} (hd : decode cc pc = .ok (.lstore_n k, 1)) (lv1 : List (Nat × Value)) (ks : List Nat) (hi : (k : Nat) = i) (hn : i + 1 < nL) (hl1 : lv_pick ((i, Value.long x) :: lv.filter (fun q => !(q.1 == i) && (!(q.1 == i + 1) && !(q.1 + 1 == i && q.2.category == 2)))) ks = lv1) (kk : WX K wf nL X (pc + 1) lv1 rest) : WX K wf nL X pc lv (.long x :: rest) := by
  obtain ⟨p, l, e, R, s, m, args, below, meth, c, Q, D, A⟩ := K
  exact fun H locs ls hP hS hl => lv_lstore_n C.1 C.2.1 hd hi hl hn rfl (fun ls1 h1 => kk H locs ls1 hP hS (lv_sub h1 ks hl1))
theorem x_lstore (C : XC K wf nL cc own d tys) {i : Nat} {x : Int64} (hd : decode cc pc = .ok (.lstore i, 2)) (lv1 : List (Nat × Value)) (ks : List Nat) (hn : i + 1 < nL) (hl1 : lv_pick ((i, Value.long x) :: lv.filter (fun q => !(q.1 == i) && (!(q.1 == i + 1) && !(q.1 + 1 == i && q.2.category == 2)))) ks = lv1) (kk : WX K wf nL X (pc + 2) lv1 rest) : WX K wf nL X pc lv (.long x :: rest) := by
  obtain ⟨p, l, e, R, s, m, args, below, meth, c, Q, D, A⟩ := K
  exact fun H locs ls hP hS hl => lv_lstore C.1 C.2.1 hd hl hn rfl (fun ls1 h1 => kk H locs ls1 hP hS (lv_sub h1 ks hl1))
theorem x_astore_n (C : XC K wf nL cc own d tys) {k : Fin 4} {i : Nat} {x : Nat} (hd : decode cc pc = .ok (.astore_n k, 1)) (lv1 : List (Nat × Value)) (ks : List Nat) (hi : (k : Nat) = i) (hn : i < nL) (hl1 : lv_pick ((i, Value.ref x) :: lv.filter (fun q => !(q.1 == i) && !(q.1 + 1 == i && q.2.category == 2))) ks = lv1) (kk : WX K wf nL X (pc + 1) lv1 rest) : WX K wf nL X pc lv (.ref x :: rest) := by
  obtain ⟨p, l, e, R, s, m, args, below, meth, c, Q, D, A⟩ := K
  exact fun H locs ls hP hS hl => lv_astore_n C.1 C.2.1 hd hi hl hn rfl (fun ls1 h1 => kk H locs ls1 hP hS (lv_sub h1 ks hl1))
theorem x_astore (C : XC K wf nL cc own d tys) {i : Nat} {x : Nat} (hd : decode cc pc = .ok (.astore i, 2)) (lv1 : List (Nat × Value)) (ks : List Nat) (hn : i < nL) (hl1 : lv_pick ((i, Value.ref x) :: lv.filter (fun q => !(q.1 == i) && !(q.1 + 1 == i && q.2.category == 2))) ks = lv1) (kk : WX K wf nL X (pc + 2) lv1 rest) : WX K wf nL X pc lv (.ref x :: rest) := by
  obtain ⟨p, l, e, R, s, m, args, below, meth, c, Q, D, A⟩ := K
  exact fun H locs ls hP hS hl => lv_astore C.1 C.2.1 hd hl hn rfl (fun ls1 h1 => kk H locs ls1 hP hS (lv_sub h1 ks hl1))
theorem x_iinc (C : XC K wf nL cc own d tys) {i : Nat} {n : Int} {x v : Int32} (hd : decode cc pc = .ok (.iinc i n, 3)) (q : Nat) (lv1 : List (Nat × Value)) (ks : List Nat) (hq : lv[q]? = some (i, .int x)) (hv : x + Int32.ofInt n = v) (hn : i < nL) (hl1 : lv_pick ((i, Value.int v) :: lv.filter (fun q => !(q.1 == i) && !(q.1 + 1 == i && q.2.category == 2))) ks = lv1) (kk : WX K wf nL X (pc + 3) lv1 rest) : WX K wf nL X pc lv rest := by
  obtain ⟨p, l, e, R, s, m, args, below, meth, c, Q, D, A⟩ := K
  exact fun H locs ls hP hS hl => lv_iinc C.1 C.2.1 hd hl hq hv hn rfl (fun ls1 h1 => kk H locs ls1 hP hS (lv_sub h1 ks hl1))
theorem x_sub (lv1 : List (Nat × Value)) (ks : List Nat) (h : lv_pick lv ks = lv1) (k : WX K wf nL X pc lv1 rest) : WX K wf nL X pc lv rest := by
  obtain ⟨p, l, e, R, s, m, args, below, meth, c, Q, D, A⟩ := K
  exact fun H locs ls hP hS hl => k H locs ls hP hS (lv_sub hl ks h)
theorem x_iadd (C : XC K wf nL cc own d tys) {x y : Int32} (hd : decode cc pc = .ok (.iadd, 1))  (k : WX K wf nL X (pc + 1) lv (.int (x + y) :: rest)) : WX K wf nL X pc lv (.int y :: .int x :: rest) := by
  obtain ⟨p, l, e, R, s, m, args, below, meth, c, Q, D, A⟩ := K
  exact fun H locs ls hP hS hl => lv_iadd C.1 C.2.1 hd (k H locs ls hP hS hl)
theorem x_isub (C : XC K wf nL cc own d tys) {x y : Int32} (hd : decode cc pc = .ok (.isub, 1))  (k : WX K wf nL X (pc + 1) lv (.int (x - y) :: rest)) : WX K wf nL X pc lv (.int y :: .int x :: rest) := by
  obtain ⟨p, l, e, R, s, m, args, below, meth, c, Q, D, A⟩ := K
  exact fun H locs ls hP hS hl => lv_isub C.1 C.2.1 hd (k H locs ls hP hS hl)
theorem x_imul (C : XC K wf nL cc own d tys) {x y : Int32} (hd : decode cc pc = .ok (.imul, 1))  (k : WX K wf nL X (pc + 1) lv (.int (x * y) :: rest)) : WX K wf nL X pc lv (.int y :: .int x :: rest) := by
  obtain ⟨p, l, e, R, s, m, args, below, meth, c, Q, D, A⟩ := K
  exact fun H locs ls hP hS hl => lv_imul C.1 C.2.1 hd (k H locs ls hP hS hl)
theorem x_iand (C : XC K wf nL cc own d tys) {x y : Int32} (hd : decode cc pc = .ok (.iand, 1))  (k : WX K wf nL X (pc + 1) lv (.int (x &&& y) :: rest)) : WX K wf nL X pc lv (.int y :: .int x :: rest) := by
  obtain ⟨p, l, e, R, s, m, args, below, meth, c, Q, D, A⟩ := K
  exact fun H locs ls hP hS hl => lv_iand C.1 C.2.1 hd (k H locs ls hP hS hl)
theorem x_ior (C : XC K wf nL cc own d tys) {x y : Int32} (hd : decode cc pc = .ok (.ior, 1))  (k : WX K wf nL X (pc + 1) lv (.int (x ||| y) :: rest)) : WX K wf nL X pc lv (.int y :: .int x :: rest) := by
  obtain ⟨p, l, e, R, s, m, args, below, meth, c, Q, D, A⟩ := K
  exact fun H locs ls hP hS hl => lv_ior C.1 C.2.1 hd (k H locs ls hP hS hl)
theorem x_ixor (C : XC K wf nL cc own d tys) {x y : Int32} (hd : decode cc pc = .ok (.ixor, 1))  (k : WX K wf nL X (pc + 1) lv (.int (x ^^^ y) :: rest)) : WX K wf nL X pc lv (.int y :: .int x :: rest) := by
  obtain ⟨p, l, e, R, s, m, args, below, meth, c, Q, D, A⟩ := K
  exact fun H locs ls hP hS hl => lv_ixor C.1 C.2.1 hd (k H locs ls hP hS hl)
theorem x_ishl (C : XC K wf nL cc own d tys) {x y : Int32} (hd : decode cc pc = .ok (.ishl, 1))  (k : WX K wf nL X (pc + 1) lv (.int (x <<< (y &&& 31)) :: rest)) : WX K wf nL X pc lv (.int y :: .int x :: rest) := by
  obtain ⟨p, l, e, R, s, m, args, below, meth, c, Q, D, A⟩ := K
  exact fun H locs ls hP hS hl => lv_ishl C.1 C.2.1 hd (k H locs ls hP hS hl)
theorem x_ishr (C : XC K wf nL cc own d tys) {x y : Int32} (hd : decode cc pc = .ok (.ishr, 1))  (k : WX K wf nL X (pc + 1) lv (.int (x >>> (y &&& 31)) :: rest)) : WX K wf nL X pc lv (.int y :: .int x :: rest) := by
  obtain ⟨p, l, e, R, s, m, args, below, meth, c, Q, D, A⟩ := K
  exact fun H locs ls hP hS hl => lv_ishr C.1 C.2.1 hd (k H locs ls hP hS hl)
theorem x_idiv (C : XC K wf nL cc own d tys) {x y : Int32} (hd : decode cc pc = .ok (.idiv, 1)) (hne : ¬ y = 0) (k : WX K wf nL X (pc + 1) lv (.int (x / y) :: rest)) : WX K wf nL X pc lv (.int y :: .int x :: rest) := by
  obtain ⟨p, l, e, R, s, m, args, below, meth, c, Q, D, A⟩ := K
  exact fun H locs ls hP hS hl => lv_idiv C.1 C.2.1 hd hne (k H locs ls hP hS hl)
theorem x_ineg (C : XC K wf nL cc own d tys) {x : Int32} (hd : decode cc pc = .ok (.ineg, 1))  (k : WX K wf nL X (pc + 1) lv (.int (-x) :: rest)) : WX K wf nL X pc lv (.int x :: rest) := by
  obtain ⟨p, l, e, R, s, m, args, below, meth, c, Q, D, A⟩ := K
  exact fun H locs ls hP hS hl => lv_ineg C.1 C.2.1 hd (k H locs ls hP hS hl)
theorem x_ladd (C : XC K wf nL cc own d tys) {x y : Int64} (hd : decode cc pc = .ok (.ladd, 1))  (k : WX K wf nL X (pc + 1) lv (.long (x + y) :: rest)) : WX K wf nL X pc lv (.long y :: .long x :: rest) := by
  obtain ⟨p, l, e, R, s, m, args, below, meth, c, Q, D, A⟩ := K
  exact fun H locs ls hP hS hl => lv_ladd C.1 C.2.1 hd (k H locs ls hP hS hl)
theorem x_lsub (C : XC K wf nL cc own d tys) {x y : Int64} (hd : decode cc pc = .ok (.lsub, 1))  (k : WX K wf nL X (pc + 1) lv (.long (x - y) :: rest)) : WX K wf nL X pc lv (.long y :: .long x :: rest) := by
  obtain ⟨p, l, e, R, s, m, args, below, meth, c, Q, D, A⟩ := K
  exact fun H locs ls hP hS hl => lv_lsub C.1 C.2.1 hd (k H locs ls hP hS hl)
theorem x_lmul (C : XC K wf nL cc own d tys) {x y : Int64} (hd : decode cc pc = .ok (.lmul, 1))  (k : WX K wf nL X (pc + 1) lv (.long (x * y) :: rest)) : WX K wf nL X pc lv (.long y :: .long x :: rest) := by
  obtain ⟨p, l, e, R, s, m, args, below, meth, c, Q, D, A⟩ := K
  exact fun H locs ls hP hS hl => lv_lmul C.1 C.2.1 hd (k H locs ls hP hS hl)
theorem x_i2l (C : XC K wf nL cc own d tys) {x : Int32} (hd : decode cc pc = .ok (.i2l, 1))  (k : WX K wf nL X (pc + 1) lv (.long x.toInt64 :: rest)) : WX K wf nL X pc lv (.int x :: rest) := by
  obtain ⟨p, l, e, R, s, m, args, below, meth, c, Q, D, A⟩ := K
  exact fun H locs ls hP hS hl => lv_i2l C.1 C.2.1 hd rfl (k H locs ls hP hS hl)
theorem x_i2b (C : XC K wf nL cc own d tys) {x : Int32} (hd : decode cc pc = .ok (.i2b, 1))  (k : WX K wf nL X (pc + 1) lv (.int x.toInt8.toInt32 :: rest)) : WX K wf nL X pc lv (.int x :: rest) := by
  obtain ⟨p, l, e, R, s, m, args, below, meth, c, Q, D, A⟩ := K
  exact fun H locs ls hP hS hl => lv_i2b C.1 C.2.1 hd rfl (k H locs ls hP hS hl)
theorem x_lcmp (C : XC K wf nL cc own d tys) {x y : Int64} (hd : decode cc pc = .ok (.lcmp, 1))  (k : WX K wf nL X (pc + 1) lv (.int (lg_cmp x y) :: rest)) : WX K wf nL X pc lv (.long y :: .long x :: rest) := by
  obtain ⟨p, l, e, R, s, m, args, below, meth, c, Q, D, A⟩ := K
  exact fun H locs ls hP hS hl => W.lcmp C.1 C.2.1 hd (k H locs ls hP hS hl)
theorem x_dup (C : XC K wf nL cc own d tys) {va : Value} (hd : decode cc pc = .ok (.dup, 1)) (hv : va.category = 1) (k : WX K wf nL X (pc + 1) lv (va :: va :: rest)) : WX K wf nL X pc lv (va :: rest) := by
  obtain ⟨p, l, e, R, s, m, args, below, meth, c, Q, D, A⟩ := K
  exact fun H locs ls hP hS hl => lv_dup C.1 C.2.1 hd hv (k H locs ls hP hS hl)
theorem x_pop (C : XC K wf nL cc own d tys) {va : Value} (hd : decode cc pc = .ok (.pop, 1)) (hv : va.category = 1) (k : WX K wf nL X (pc + 1) lv (rest)) : WX K wf nL X pc lv (va :: rest) := by
  obtain ⟨p, l, e, R, s, m, args, below, meth, c, Q, D, A⟩ := K
  exact fun H locs ls hP hS hl => lv_pop C.1 C.2.1 hd hv (k H locs ls hP hS hl)
theorem x_dup2 (C : XC K wf nL cc own d tys) {va vb : Value} (hd : decode cc pc = .ok (.dup2, 1)) (hv : va.category = 1) (hw : vb.category = 1) (k : WX K wf nL X (pc + 1) lv (va :: vb :: va :: vb :: rest)) : WX K wf nL X pc lv (va :: vb :: rest) := by
  obtain ⟨p, l, e, R, s, m, args, below, meth, c, Q, D, A⟩ := K
  exact fun H locs ls hP hS hl => lv_dup2_11 C.1 C.2.1 hd hv hw (k H locs ls hP hS hl)
theorem x_if_eq (C : XC K wf nL cc own d tys) {x : Int32} {off : Int} {tgt : Nat} (hd : decode cc pc = .ok (.ifCond .eq off, 3)) (ht : (pc : Int) + off = (tgt : Int)) (kt : x = 0 → WX K wf nL X tgt lv rest) (kf : ¬ (x = 0) → WX K wf nL X (pc + 3) lv rest) : WX K wf nL X pc lv (.int x :: rest) := by
  obtain ⟨p, l, e, R, s, m, args, below, meth, c, Q, D, A⟩ := K
  exact fun H locs ls hP hS hl => lv_if_eq C.1 C.2.1 hd ht (fun h => kt h H locs ls hP hS hl) (fun h => kf h H locs ls hP hS hl)
theorem x_icmp_eq (C : XC K wf nL cc own d tys) {x y : Int32} {off : Int} {tgt : Nat} (hd : decode cc pc = .ok (.if_icmp .eq off, 3)) (ht : (pc : Int) + off = (tgt : Int)) (kt : x = y → WX K wf nL X tgt lv rest) (kf : ¬ (x = y) → WX K wf nL X (pc + 3) lv rest) : WX K wf nL X pc lv (.int y :: .int x :: rest) := by
  obtain ⟨p, l, e, R, s, m, args, below, meth, c, Q, D, A⟩ := K
  exact fun H locs ls hP hS hl => lv_icmp_eq C.1 C.2.1 hd ht (fun h => kt h H locs ls hP hS hl) (fun h => kf h H locs ls hP hS hl)
theorem x_if_ne (C : XC K wf nL cc own d tys) {x : Int32} {off : Int} {tgt : Nat} (hd : decode cc pc = .ok (.ifCond .ne off, 3)) (ht : (pc : Int) + off = (tgt : Int)) (kt : ¬ x = 0 → WX K wf nL X tgt lv rest) (kf : x = 0 → WX K wf nL X (pc + 3) lv rest) : WX K wf nL X pc lv (.int x :: rest) := by
  obtain ⟨p, l, e, R, s, m, args, below, meth, c, Q, D, A⟩ := K
  exact fun H locs ls hP hS hl => lv_if_ne C.1 C.2.1 hd ht (fun h => kt h H locs ls hP hS hl) (fun h => kf h H locs ls hP hS hl)
theorem x_icmp_ne (C : XC K wf nL cc own d tys) {x y : Int32} {off : Int} {tgt : Nat} (hd : decode cc pc = .ok (.if_icmp .ne off, 3)) (ht : (pc : Int) + off = (tgt : Int)) (kt : ¬ x = y → WX K wf nL X tgt lv rest) (kf : x = y → WX K wf nL X (pc + 3) lv rest) : WX K wf nL X pc lv (.int y :: .int x :: rest) := by
  obtain ⟨p, l, e, R, s, m, args, below, meth, c, Q, D, A⟩ := K
  exact fun H locs ls hP hS hl => lv_icmp_ne C.1 C.2.1 hd ht (fun h => kt h H locs ls hP hS hl) (fun h => kf h H locs ls hP hS hl)
theorem x_if_lt (C : XC K wf nL cc own d tys) {x : Int32} {off : Int} {tgt : Nat} (hd : decode cc pc = .ok (.ifCond .lt off, 3)) (ht : (pc : Int) + off = (tgt : Int)) (kt : x < 0 → WX K wf nL X tgt lv rest) (kf : ¬ (x < 0) → WX K wf nL X (pc + 3) lv rest) : WX K wf nL X pc lv (.int x :: rest) := by
  obtain ⟨p, l, e, R, s, m, args, below, meth, c, Q, D, A⟩ := K
  exact fun H locs ls hP hS hl => lv_if_lt C.1 C.2.1 hd ht (fun h => kt h H locs ls hP hS hl) (fun h => kf h H locs ls hP hS hl)
theorem x_icmp_lt (C : XC K wf nL cc own d tys) {x y : Int32} {off : Int} {tgt : Nat} (hd : decode cc pc = .ok (.if_icmp .lt off, 3)) (ht : (pc : Int) + off = (tgt : Int)) (kt : x < y → WX K wf nL X tgt lv rest) (kf : ¬ (x < y) → WX K wf nL X (pc + 3) lv rest) : WX K wf nL X pc lv (.int y :: .int x :: rest) := by
  obtain ⟨p, l, e, R, s, m, args, below, meth, c, Q, D, A⟩ := K
  exact fun H locs ls hP hS hl => lv_icmp_lt C.1 C.2.1 hd ht (fun h => kt h H locs ls hP hS hl) (fun h => kf h H locs ls hP hS hl)
theorem x_if_ge (C : XC K wf nL cc own d tys) {x : Int32} {off : Int} {tgt : Nat} (hd : decode cc pc = .ok (.ifCond .ge off, 3)) (ht : (pc : Int) + off = (tgt : Int)) (kt : 0 ≤ x → WX K wf nL X tgt lv rest) (kf : ¬ (0 ≤ x) → WX K wf nL X (pc + 3) lv rest) : WX K wf nL X pc lv (.int x :: rest) := by
  obtain ⟨p, l, e, R, s, m, args, below, meth, c, Q, D, A⟩ := K
  exact fun H locs ls hP hS hl => lv_if_ge C.1 C.2.1 hd ht (fun h => kt h H locs ls hP hS hl) (fun h => kf h H locs ls hP hS hl)
theorem x_icmp_ge (C : XC K wf nL cc own d tys) {x y : Int32} {off : Int} {tgt : Nat} (hd : decode cc pc = .ok (.if_icmp .ge off, 3)) (ht : (pc : Int) + off = (tgt : Int)) (kt : y ≤ x → WX K wf nL X tgt lv rest) (kf : ¬ (y ≤ x) → WX K wf nL X (pc + 3) lv rest) : WX K wf nL X pc lv (.int y :: .int x :: rest) := by
  obtain ⟨p, l, e, R, s, m, args, below, meth, c, Q, D, A⟩ := K
  exact fun H locs ls hP hS hl => lv_icmp_ge C.1 C.2.1 hd ht (fun h => kt h H locs ls hP hS hl) (fun h => kf h H locs ls hP hS hl)
theorem x_if_gt (C : XC K wf nL cc own d tys) {x : Int32} {off : Int} {tgt : Nat} (hd : decode cc pc = .ok (.ifCond .gt off, 3)) (ht : (pc : Int) + off = (tgt : Int)) (kt : 0 < x → WX K wf nL X tgt lv rest) (kf : ¬ (0 < x) → WX K wf nL X (pc + 3) lv rest) : WX K wf nL X pc lv (.int x :: rest) := by
  obtain ⟨p, l, e, R, s, m, args, below, meth, c, Q, D, A⟩ := K
  exact fun H locs ls hP hS hl => lv_if_gt C.1 C.2.1 hd ht (fun h => kt h H locs ls hP hS hl) (fun h => kf h H locs ls hP hS hl)
theorem x_icmp_gt (C : XC K wf nL cc own d tys) {x y : Int32} {off : Int} {tgt : Nat} (hd : decode cc pc = .ok (.if_icmp .gt off, 3)) (ht : (pc : Int) + off = (tgt : Int)) (kt : y < x → WX K wf nL X tgt lv rest) (kf : ¬ (y < x) → WX K wf nL X (pc + 3) lv rest) : WX K wf nL X pc lv (.int y :: .int x :: rest) := by
  obtain ⟨p, l, e, R, s, m, args, below, meth, c, Q, D, A⟩ := K
  exact fun H locs ls hP hS hl => lv_icmp_gt C.1 C.2.1 hd ht (fun h => kt h H locs ls hP hS hl) (fun h => kf h H locs ls hP hS hl)
theorem x_if_le (C : XC K wf nL cc own d tys) {x : Int32} {off : Int} {tgt : Nat} (hd : decode cc pc = .ok (.ifCond .le off, 3)) (ht : (pc : Int) + off = (tgt : Int)) (kt : x ≤ 0 → WX K wf nL X tgt lv rest) (kf : ¬ (x ≤ 0) → WX K wf nL X (pc + 3) lv rest) : WX K wf nL X pc lv (.int x :: rest) := by
  obtain ⟨p, l, e, R, s, m, args, below, meth, c, Q, D, A⟩ := K
  exact fun H locs ls hP hS hl => lv_if_le C.1 C.2.1 hd ht (fun h => kt h H locs ls hP hS hl) (fun h => kf h H locs ls hP hS hl)
theorem x_icmp_le (C : XC K wf nL cc own d tys) {x y : Int32} {off : Int} {tgt : Nat} (hd : decode cc pc = .ok (.if_icmp .le off, 3)) (ht : (pc : Int) + off = (tgt : Int)) (kt : x ≤ y → WX K wf nL X tgt lv rest) (kf : ¬ (x ≤ y) → WX K wf nL X (pc + 3) lv rest) : WX K wf nL X pc lv (.int y :: .int x :: rest) := by
  obtain ⟨p, l, e, R, s, m, args, below, meth, c, Q, D, A⟩ := K
  exact fun H locs ls hP hS hl => lv_icmp_le C.1 C.2.1 hd ht (fun h => kt h H locs ls hP hS hl) (fun h => kf h H locs ls hP hS hl)
theorem x_goto (C : XC K wf nL cc own d tys) {off : Int} {tgt : Nat} (hd : decode cc pc = .ok (.goto off, 3)) (ht : (pc : Int) + off = (tgt : Int)) (k : WX K wf nL X tgt lv rest) : WX K wf nL X pc lv rest := by
  obtain ⟨p, l, e, R, s, m, args, below, meth, c, Q, D, A⟩ := K
  exact fun H locs ls hP hS hl => lv_goto C.1 C.2.1 hd ht (k H locs ls hP hS hl)
theorem x_tin (C : XC K wf nL cc own d tys) {dflt lo hi : Int} {offs : Array Int} {len : Nat} {x : Int32} {off : Int} {tgt : Nat} (hd : decode cc pc = .ok (.tableswitch dflt lo hi offs, len)) (h1 : ¬ x.toInt < lo) (h2 : ¬ hi < x.toInt) (ho : offs[(x.toInt - lo).toNat]? = some off) (ht : (pc : Int) + off = (tgt : Int)) (k : WX K wf nL X tgt lv rest) : WX K wf nL X pc lv (.int x :: rest) := by
  obtain ⟨p, l, e, R, s, m, args, below, meth, c, Q, D, A⟩ := K
  exact fun H locs ls hP hS hl => lv_tableIn C.1 C.2.1 hd h1 h2 ho ht (k H locs ls hP hS hl)
theorem x_tout (C : XC K wf nL cc own d tys) {dflt lo hi : Int} {offs : Array Int} {len : Nat} {x : Int32} {tgt : Nat} (hd : decode cc pc = .ok (.tableswitch dflt lo hi offs, len)) (h : x.toInt < lo ∨ hi < x.toInt) (ht : (pc : Int) + dflt = (tgt : Int)) (k : WX K wf nL X tgt lv rest) : WX K wf nL X pc lv (.int x :: rest) := by
  obtain ⟨p, l, e, R, s, m, args, below, meth, c, Q, D, A⟩ := K
  exact fun H locs ls hP hS hl => lv_tableOut C.1 C.2.1 hd h ht (k H locs ls hP hS hl)
theorem x_eqX {X' : St} (h : X = X') (k : WX K wf nL X' pc lv rest) : WX K wf nL X pc lv rest := h ▸ k
theorem x_topi {x : Int32} (k : ∀ y : Int32, y = x → WX K wf nL X pc lv (.int y :: rest)) : WX K wf nL X pc lv (.int x :: rest) := k x rfl
theorem x_top {x y : Int32} (h : x = y) (k : WX K wf nL X pc lv (.int y :: rest)) : WX K wf nL X pc lv (.int x :: rest) := h ▸ k
theorem x_topl {x y : Int64} (h : x = y) (k : WX K wf nL X pc lv (.long y :: rest)) : WX K wf nL X pc lv (.long x :: rest) := h ▸ k
/-- the cells of a world: an object's number or reference, an array of numbers, an array of rows -/
def isFld (wf : St → va_W) (q0 b ci k a : Nat) : Prop := ∀ X : St, ∃ fs : List Value, (wf X)[q0]? = some (b, .inr (ci, fs)) ∧ fs[k]? = some (.int (X a 0)) ∧ ∀ v : Int32, (wf X).set q0 (b, .inr (ci, fs.set k (.int v))) = wf (ux X a 0 v)
def isRef (wf : St → va_W) (q0 b ci k b2 : Nat) : Prop := ∀ X : St, ∃ fs : List Value, (wf X)[q0]? = some (b, .inr (ci, fs)) ∧ fs[k]? = some (.ref b2)
def isRow (wf : St → va_W) (q0 b : Nat) (cA : ClassId) (n a : Nat) : Prop := ∀ X : St, (wf X)[q0]? = some (b, .inl (cA, n, .inl (X a))) ∧ ∀ (i : Nat) (v : Int32), (wf X).set q0 (b, .inl (cA, n, .inl (upd (X a) i v))) = wf (ux X a i v)
def isGrid (wf : St → va_W) (q0 b : Nat) (cA : ClassId) (n : Nat) (r : Nat → Nat) : Prop := ∀ X : St, (wf X)[q0]? = some (b, .inl (cA, n, .inr (.inr (.inr (.inr (fun i => some (r i)))))))
theorem x_getI (C : XC K wf nL cc own d tys) {ref Cn : String} {T : u_T} {N ci index q0 b k a : Nat} (h : isFld wf q0 b ci k a) (hc : vwCl[ci]? = some (Cn, T, N)) (hk : k < N) (hin : ∀ w ∈ u_ws Cn T N, w ∈ tA) (hlink : Cond.fieldLink own index ref (T k).2.1 (T k).2.2.1 ∈ tA) (href : (T k).1 = ref) (hd : decode cc pc = .ok (.getfield index, 3)) (kk : WX K wf nL X (pc + 3) lv (.int (X a 0) :: rest)) : WX K wf nL X pc lv (.ref b :: rest) := by
  obtain ⟨p, l, e, R, s, m, args, below, meth, c, Q, D, A⟩ := K
  obtain ⟨fs, h1, h2, -⟩ := h X
  exact fun H locs ls hP hS hl => va_get C.1 C.2.1 C.2.2.2.2.1 hin C.2.2.2.1 C.2.2.2.2.2.2.1 hP q0 h1 hc k hk (C.2.2.2.2.1 _ hlink) (fun x hx => by rw [← href]; exact hx) h2 hd (kk H locs ls hP hS hl)
theorem x_getR (C : XC K wf nL cc own d tys) {ref Cn : String} {T : u_T} {N ci index q0 b k b2 : Nat} (h : isRef wf q0 b ci k b2) (hc : vwCl[ci]? = some (Cn, T, N)) (hk : k < N) (hin : ∀ w ∈ u_ws Cn T N, w ∈ tA) (hlink : Cond.fieldLink own index ref (T k).2.1 (T k).2.2.1 ∈ tA) (href : (T k).1 = ref) (hd : decode cc pc = .ok (.getfield index, 3)) (kk : WX K wf nL X (pc + 3) lv (.ref b2 :: rest)) : WX K wf nL X pc lv (.ref b :: rest) := by
  obtain ⟨p, l, e, R, s, m, args, below, meth, c, Q, D, A⟩ := K
  obtain ⟨fs, h1, h2⟩ := h X
  exact fun H locs ls hP hS hl => va_get C.1 C.2.1 C.2.2.2.2.1 hin C.2.2.2.1 C.2.2.2.2.2.2.1 hP q0 h1 hc k hk (C.2.2.2.2.1 _ hlink) (fun x hx => by rw [← href]; exact hx) h2 hd (kk H locs ls hP hS hl)
theorem x_putI (C : XC K wf nL cc own d tys) {ref Cn : String} {T : u_T} {N ci index q0 b k a : Nat} (h : isFld wf q0 b ci k a) (hc : vwCl[ci]? = some (Cn, T, N)) (hk : k < N) (hin : ∀ w ∈ u_ws Cn T N, w ∈ tA) (ty0 : Nat → FieldType) (hty : ∀ k, k < N → parseFieldDescriptor (T k).2.2.1 = some (ty0 k)) (hnm : ∀ a, a < N → ∀ b, b < N → a ≠ b → (T a).2.1 ≠ (T b).2.1) (hlink : Cond.fieldLink own index ref (T k).2.1 (T k).2.2.1 ∈ tA) (href : (T k).1 = ref) (hfin : (T k).2.2.2 = false) {v : Int32} (hn : narrow (ty0 k) (.int v) = .int v) (hfit : fits (ty0 k) (.int v) = true) (hd : decode cc pc = .ok (.putfield index, 3)) (kk : WX K wf nL (ux X a 0 v) (pc + 3) lv rest) : WX K wf nL X pc lv (.int v :: .ref b :: rest) := by
  obtain ⟨p, l, e, R, s, m, args, below, meth, c, Q, D, A⟩ := K
  obtain ⟨fs, h1, h2, h3⟩ := h X
  exact fun H locs ls hP hS hl => va_put C.1 C.2.1 C.2.2.2.2.1 hin ty0 hty hnm C.2.2.2.1 C.2.2.2.2.2.2.1 hP (C.2.2.2.2.2.2.2.1 X) hS q0 h1 hc k hk (C.2.2.2.2.1 _ hlink) (fun x hx => by rw [← href]; exact hx) hfin (hty k hk) hn hfit (List.getElem?_eq_some_iff.mp h2).1 hd (fun H1 locs1 hP1 _ hS1 => kk H1 locs1 ls (by rw [← h3 v]; exact hP1) hS1 hl)
theorem x_iald (C : XC K wf nL cc own d tys) {q0 b n a : Nat} {cA : ClassId} (h : isRow wf q0 b cA n a) (t0 : Nat) (ht : tys[t0]? = some (cA, .int)) {i : Int32} (hd : decode cc pc = .ok (.iaload, 1)) (hin : vp_in i n) (kk : WX K wf nL X (pc + 1) lv (.int (X a (ix i)) :: rest)) : WX K wf nL X pc lv (.int i :: .ref b :: rest) := by
  obtain ⟨p, l, e, R, s, m, args, below, meth, c, Q, D, A⟩ := K
  exact fun H locs ls hP hS hl => va_iald C.1 C.2.1 C.2.2.2.2.2.2.1 hP q0 t0 (h X).1 ht hin hd (kk H locs ls hP hS hl)
theorem x_bald (C : XC K wf nL cc own d tys) {q0 b n a : Nat} {cA : ClassId} (h : isRow wf q0 b cA n a) (t0 : Nat) (ht : tys[t0]? = some (cA, .byte)) {i : Int32} (hd : decode cc pc = .ok (.baload, 1)) (hin : vp_in i n) (kk : WX K wf nL X (pc + 1) lv (.int (X a (ix i)) :: rest)) : WX K wf nL X pc lv (.int i :: .ref b :: rest) := by
  obtain ⟨p, l, e, R, s, m, args, below, meth, c, Q, D, A⟩ := K
  exact fun H locs ls hP hS hl => va_bald C.1 C.2.1 C.2.2.2.2.2.2.1 hP q0 t0 (h X).1 ht hin hd (kk H locs ls hP hS hl)
theorem x_zald (C : XC K wf nL cc own d tys) {q0 b n a : Nat} {cA : ClassId} (h : isRow wf q0 b cA n a) (t0 : Nat) (ht : tys[t0]? = some (cA, .boolean)) {i : Int32} (hd : decode cc pc = .ok (.baload, 1)) (hin : vp_in i n) (kk : WX K wf nL X (pc + 1) lv (.int (X a (ix i)) :: rest)) : WX K wf nL X pc lv (.int i :: .ref b :: rest) := by
  obtain ⟨p, l, e, R, s, m, args, below, meth, c, Q, D, A⟩ := K
  exact fun H locs ls hP hS hl => va_zald C.1 C.2.1 C.2.2.2.2.2.2.1 hP q0 t0 (h X).1 ht hin hd (kk H locs ls hP hS hl)
theorem x_iast (C : XC K wf nL cc own d tys) {q0 b n a : Nat} {cA : ClassId} (h : isRow wf q0 b cA n a) (t0 : Nat) (ht : tys[t0]? = some (cA, .int)) {i v : Int32} (hd : decode cc pc = .ok (.iastore, 1)) (hin : vp_in i n) (kk : WX K wf nL (ux X a (ix i) v) (pc + 1) lv rest) : WX K wf nL X pc lv (.int v :: .int i :: .ref b :: rest) := by
  obtain ⟨p, l, e, R, s, m, args, below, meth, c, Q, D, A⟩ := K
  exact fun H locs ls hP hS hl => va_iast C.1 C.2.1 C.2.2.2.2.2.2.1 hP (C.2.2.2.2.2.2.2.1 X) hS q0 t0 (h X).1 ht hin hd (fun H1 locs1 hP1 _ hS1 => kk H1 locs1 ls (by rw [← (h X).2]; exact hP1) hS1 hl)
theorem x_bast (C : XC K wf nL cc own d tys) {q0 b n a : Nat} {cA : ClassId} (h : isRow wf q0 b cA n a) (t0 : Nat) (ht : tys[t0]? = some (cA, .byte)) {i v : Int32} (hd : decode cc pc = .ok (.bastore, 1)) (hin : vp_in i n) (kk : WX K wf nL (ux X a (ix i) (vp_nar .byte v)) (pc + 1) lv rest) : WX K wf nL X pc lv (.int v :: .int i :: .ref b :: rest) := by
  obtain ⟨p, l, e, R, s, m, args, below, meth, c, Q, D, A⟩ := K
  exact fun H locs ls hP hS hl => va_bast C.1 C.2.1 C.2.2.2.2.2.2.1 hP (C.2.2.2.2.2.2.2.1 X) hS q0 t0 (h X).1 ht hin hd (fun H1 locs1 hP1 _ hS1 => kk H1 locs1 ls (by rw [← (h X).2]; exact hP1) hS1 hl)
theorem x_zast (C : XC K wf nL cc own d tys) {q0 b n a : Nat} {cA : ClassId} (h : isRow wf q0 b cA n a) (t0 : Nat) (ht : tys[t0]? = some (cA, .boolean)) {i v : Int32} (hd : decode cc pc = .ok (.bastore, 1)) (hin : vp_in i n) (kk : WX K wf nL (ux X a (ix i) (vp_nar .boolean v)) (pc + 1) lv rest) : WX K wf nL X pc lv (.int v :: .int i :: .ref b :: rest) := by
  obtain ⟨p, l, e, R, s, m, args, below, meth, c, Q, D, A⟩ := K
  exact fun H locs ls hP hS hl => va_zast C.1 C.2.1 C.2.2.2.2.2.2.1 hP (C.2.2.2.2.2.2.2.1 X) hS q0 t0 (h X).1 ht hin hd (fun H1 locs1 hP1 _ hS1 => kk H1 locs1 ls (by rw [← (h X).2]; exact hP1) hS1 hl)
theorem x_aald (C : XC K wf nL cc own d tys) {q0 b n : Nat} {cA : ClassId} {r : Nat → Nat} (h : isGrid wf q0 b cA n r) (t0 : Nat) {ty : FieldType} (ht : tys[t0]? = some (cA, .array ty)) {i : Int32} (hd : decode cc pc = .ok (.aaload, 1)) (hin : vp_in i n) (kk : WX K wf nL X (pc + 1) lv (.ref (r (ix i)) :: rest)) : WX K wf nL X pc lv (.int i :: .ref b :: rest) := by
  obtain ⟨p, l, e, R, s, m, args, below, meth, c, Q, D, A⟩ := K
  have hlt : i.toNatClampNeg < n := Nat.not_le.mp fun q => hin (Or.inr q)
  exact fun H locs ls hP hS hl => W.aald (v := .ref (r (ix i))) (ty := .array ty) C.1 C.2.1 (hP q0 _ (h X)) ((C.2.2.2.2.2.2.1.2 t0 _ ht).1 n (fun j => va_rf (some (r j)))) rfl (fun q => by cases q) (by show ¬ (i < 0 ∨ (arrV _ _ _).slots.size ≤ _); rw [arrV_size]; exact hin) (by show (arrV _ _ _).slots[_]? = _; rw [arrV_read _ _ hlt]; rfl) rfl rfl hd (kk H locs ls hP hS hl)
theorem x_alen (C : XC K wf nL cc own d tys) {q0 b n a : Nat} {cA : ClassId} (h : isRow wf q0 b cA n a) (t0 : Nat) {ty : FieldType} (ht : tys[t0]? = some (cA, ty)) (hd : decode cc pc = .ok (.arraylength, 1)) (kk : WX K wf nL X (pc + 1) lv (.int (nI n) :: rest)) : WX K wf nL X pc lv (.ref b :: rest) := by
  obtain ⟨p, l, e, R, s, m, args, below, meth, c, Q, D, A⟩ := K
  exact fun H locs ls hP hS hl => va_alen C.1 C.2.1 C.2.2.2.2.2.2.1 hP q0 t0 (h X).1 ht rfl hd (kk H locs ls hP hS hl)
theorem x_max (C : XC K wf nL cc own d tys) {x y : Int32} {index : Nat} (hlink : Cond.methodLink own index Lib.Math.max.name ∈ tA) (hd0 : 0 < d) (hr : (rest.map fun v => v.category).sum ≤ 8) (hd : decode cc pc = .ok (.invokestatic index, 3)) (kk : WX K wf nL X (pc + 3) lv (.int (if x < y then y else x) :: rest)) : WX K wf nL X pc lv (.int y :: .int x :: rest) := by
  obtain ⟨p, l, e, R, s, m, args, below, meth, c, Q, D, A⟩ := K
  have hR : R = rL d := C.2.2.2.2.2.1
  exact fun H locs ls hP hS hl => va_mmax C.1 C.2.1 (by rw [C.2.2.1]; exact hl.1.symm) C.2.2.2.1 (C.2.2.2.2.1 _ hlink) (C.2.2.2.2.1 _ st_max) (C.2.2.2.2.1 _ in_J9) (C.2.2.2.2.1 _ co_max) (by rw [hR]; exact hd0) (by rw [hR]; show _ ≤ 40 * d; omega) (Nat.zero_le _) (Nat.zero_le _) hd (kk H locs ls hP hS hl)
theorem x_min (C : XC K wf nL cc own d tys) {x y : Int32} {index : Nat} (hlink : Cond.methodLink own index Lib.Math.min.name ∈ tA) (hd0 : 0 < d) (hr : (rest.map fun v => v.category).sum ≤ 8) (hd : decode cc pc = .ok (.invokestatic index, 3)) (kk : WX K wf nL X (pc + 3) lv (.int (if y < x then y else x) :: rest)) : WX K wf nL X pc lv (.int y :: .int x :: rest) := by
  obtain ⟨p, l, e, R, s, m, args, below, meth, c, Q, D, A⟩ := K
  have hR : R = rL d := C.2.2.2.2.2.1
  exact fun H locs ls hP hS hl => va_mmin C.1 C.2.1 (by rw [C.2.2.1]; exact hl.1.symm) C.2.2.2.1 (C.2.2.2.2.1 _ hlink) (C.2.2.2.2.1 _ st_min) (C.2.2.2.2.1 _ in_J9) (C.2.2.2.2.1 _ co_min) (by rw [hR]; exact hd0) (by rw [hR]; show _ ≤ 40 * d; omega) (Nat.zero_le _) (Nat.zero_le _) hd (kk H locs ls hP hS hl)
theorem x_abs (C : XC K wf nL cc own d tys) {x : Int32} {index : Nat} (hlink : Cond.methodLink own index Lib.Math.abs.name ∈ tA) (hd0 : 0 < d) (hr : (rest.map fun v => v.category).sum ≤ 8) (hd : decode cc pc = .ok (.invokestatic index, 3)) (kk : WX K wf nL X (pc + 3) lv (.int (if 0 ≤ x then x else 0 - x) :: rest)) : WX K wf nL X pc lv (.int x :: rest) := by
  obtain ⟨p, l, e, R, s, m, args, below, meth, c, Q, D, A⟩ := K
  have hR : R = rL d := C.2.2.2.2.2.1
  exact fun H locs ls hP hS hl => va_mabs C.1 C.2.1 (by rw [C.2.2.1]; exact hl.1.symm) C.2.2.2.1 (C.2.2.2.2.1 _ hlink) (C.2.2.2.2.1 _ st_abs) (C.2.2.2.2.1 _ in_J9) (C.2.2.2.2.1 _ co_abs) (by rw [hR]; exact hd0) (by rw [hR]; show _ ≤ 40 * d; omega) (Nat.zero_le _) (Nat.zero_le _) hd (kk H locs ls hP hS hl)
theorem x_callVi (C : XC K wf nL cc own d tys) {y : MethodName} {cy : ByteArray} {ny d2 index : Nat} {ret : Option FieldType} {post : Int32 → St → Prop} {q0 ci b : Nat} {fs : List Value} {qc : vw_C} (As : List Value) (hM : ∀ l D, Ci l y cy ny ret d2 wf D tys (.ref b :: As) X post) (hrc : (wf X)[q0]? = some (b, .inr (ci, fs))) (hc : vwCl[ci]? = some qc) (hlink : Cond.methodLink own index y ∈ tA) (hco : Cond.code y cy ny ret ∈ tA) (him : Cond.instanceMethod y ∈ tA) (hse : Cond.selects qc.1 y y ∈ tA) (hin : Cond.initialized qc.1 ∈ tA) (hy : y.cls = qc.1 ∧ y.cls ≠ "java/lang/invoke/MethodHandle" ∧ y.cls ≠ "java/lang/invoke/VarHandle" ∧ (parseMethodDescriptor y.desc).map (fun d => d.parameters.length) = some As.length) (hdd : d2 + 1 ≤ d) (hny : ny ≤ 21) (hr : (rest.map fun v => v.category).sum ≤ 8) (hd : decode cc pc = .ok (.invokevirtual index, 3)) {st : List Value} (hst0 : st = As.reverse ++ .ref b :: rest) (kk : ∀ (r : Int32) (X1 : St), post r X1 → WX K wf nL X1 (pc + 3) lv (.int r :: rest)) : WX K wf nL X pc lv st := by
  subst hst0
  obtain ⟨p, l, e, R, s, m, args, below, meth, c, Q, D, A⟩ := K
  have hR : R = rL d := C.2.2.2.2.2.1
  have hG := lw_gi (ws := wsV own index qc.1 y (Cond.code y cy ny ret :: tA)) (by
    intro w hw
    rcases List.mem_append.mp hw with h | h
    · simp only [List.mem_cons, List.not_mem_nil, or_false] at h
      rcases h with rfl | rfl | rfl | rfl <;> assumption
    · rcases List.mem_cons.mp h with rfl | h <;> assumption)
  intro H locs ls hP hS hl
  have hF : ∀ q, va_A (wf X) H.size q → A q := fun q h => by
    rcases h with ⟨k, e, h⟩ | h
    · exact (C.2.2.2.2.2.2.2.1 X).2 k _ h
    · exact C.2.2.2.2.2.2.2.2 q (Nat.le_trans hS.1 h)
  exact va_calli (va_runV (As := As) (rest := rest) ⟨C.1, C.2.1, C.2.2.1, C.2.2.2.1, C.2.2.2.2.1⟩ (hM l D H.size) (cwV As.length C.2.2.2.2.1 (hG) rfl rfl rfl hy (by rw [hR]; exact ⟨hdd, by show _ + 40 * d2 ≤ 40 * d; omega⟩)) ⟨PcX_blind, va_recv C.2.2.2.2.2.2.1 hP hc hrc, fun U hU hW => ⟨rfl, by rw [hU], by rw [hU]; exact hP, va_K.moved hW.alike C.2.2.2.2.2.2.1, (C.2.2.2.2.2.2.2.1 X).weaken (fun _ _ _ _ => trivial)⟩⟩ rfl rfl hl.1 rfl (lv_room hr) hd ⟨Nat.zero_le _, Nat.zero_le _⟩) hS (fun q _ h => hF q h) hF (fun r u t H1 locs1 ht hvm hw hB hz1 hk1 hS1 => kk r u hw H1 locs1 ls (by rw [← ht]; exact hB) hS1 hl)
theorem x_callVl (C : XC K wf nL cc own d tys) {y : MethodName} {cy : ByteArray} {ny d2 index : Nat} {ret : Option FieldType} {post : Int64 → St → Prop} {q0 ci b : Nat} {fs : List Value} {qc : vw_C} (As : List Value) (hM : ∀ l D, Cl l y cy ny ret d2 wf D tys (.ref b :: As) X post) (hrc : (wf X)[q0]? = some (b, .inr (ci, fs))) (hc : vwCl[ci]? = some qc) (hlink : Cond.methodLink own index y ∈ tA) (hco : Cond.code y cy ny ret ∈ tA) (him : Cond.instanceMethod y ∈ tA) (hse : Cond.selects qc.1 y y ∈ tA) (hin : Cond.initialized qc.1 ∈ tA) (hy : y.cls = qc.1 ∧ y.cls ≠ "java/lang/invoke/MethodHandle" ∧ y.cls ≠ "java/lang/invoke/VarHandle" ∧ (parseMethodDescriptor y.desc).map (fun d => d.parameters.length) = some As.length) (hdd : d2 + 1 ≤ d) (hny : ny ≤ 21) (hr : (rest.map fun v => v.category).sum ≤ 8) (hd : decode cc pc = .ok (.invokevirtual index, 3)) {st : List Value} (hst0 : st = As.reverse ++ .ref b :: rest) (kk : ∀ (r : Int64) (X1 : St), post r X1 → WX K wf nL X1 (pc + 3) lv (.long r :: rest)) : WX K wf nL X pc lv st := by
  subst hst0
  obtain ⟨p, l, e, R, s, m, args, below, meth, c, Q, D, A⟩ := K
  have hR : R = rL d := C.2.2.2.2.2.1
  have hG := lw_gi (ws := wsV own index qc.1 y (Cond.code y cy ny ret :: tA)) (by
    intro w hw
    rcases List.mem_append.mp hw with h | h
    · simp only [List.mem_cons, List.not_mem_nil, or_false] at h
      rcases h with rfl | rfl | rfl | rfl <;> assumption
    · rcases List.mem_cons.mp h with rfl | h <;> assumption)
  intro H locs ls hP hS hl
  have hF : ∀ q, va_A (wf X) H.size q → A q := fun q h => by
    rcases h with ⟨k, e, h⟩ | h
    · exact (C.2.2.2.2.2.2.2.1 X).2 k _ h
    · exact C.2.2.2.2.2.2.2.2 q (Nat.le_trans hS.1 h)
  exact va_calll (va_runV (As := As) (rest := rest) ⟨C.1, C.2.1, C.2.2.1, C.2.2.2.1, C.2.2.2.2.1⟩ (hM l D H.size) (cwV As.length C.2.2.2.2.1 (hG) rfl rfl rfl hy (by rw [hR]; exact ⟨hdd, by show _ + 40 * d2 ≤ 40 * d; omega⟩)) ⟨PcX_blind, va_recv C.2.2.2.2.2.2.1 hP hc hrc, fun U hU hW => ⟨rfl, by rw [hU], by rw [hU]; exact hP, va_K.moved hW.alike C.2.2.2.2.2.2.1, (C.2.2.2.2.2.2.2.1 X).weaken (fun _ _ _ _ => trivial)⟩⟩ rfl rfl hl.1 rfl (lv_room hr) hd ⟨Nat.zero_le _, Nat.zero_le _⟩) hS (fun q _ h => hF q h) hF (fun r u t H1 locs1 ht hvm hw hB hz1 hk1 hS1 => kk r u hw H1 locs1 ls (by rw [← ht]; exact hB) hS1 hl)
theorem x_callVv (C : XC K wf nL cc own d tys) {y : MethodName} {cy : ByteArray} {ny d2 index : Nat} {ret : Option FieldType} {post : St → Prop} {q0 ci b : Nat} {fs : List Value} {qc : vw_C} (As : List Value) (hM : ∀ l D, Cv l y cy ny ret d2 wf D tys (.ref b :: As) X post) (hrc : (wf X)[q0]? = some (b, .inr (ci, fs))) (hc : vwCl[ci]? = some qc) (hlink : Cond.methodLink own index y ∈ tA) (hco : Cond.code y cy ny ret ∈ tA) (him : Cond.instanceMethod y ∈ tA) (hse : Cond.selects qc.1 y y ∈ tA) (hin : Cond.initialized qc.1 ∈ tA) (hy : y.cls = qc.1 ∧ y.cls ≠ "java/lang/invoke/MethodHandle" ∧ y.cls ≠ "java/lang/invoke/VarHandle" ∧ (parseMethodDescriptor y.desc).map (fun d => d.parameters.length) = some As.length) (hdd : d2 + 1 ≤ d) (hny : ny ≤ 21) (hr : (rest.map fun v => v.category).sum ≤ 8) (hd : decode cc pc = .ok (.invokevirtual index, 3)) {st : List Value} (hst0 : st = As.reverse ++ .ref b :: rest) (kk : ∀ (X1 : St), post X1 → WX K wf nL X1 (pc + 3) lv (rest)) : WX K wf nL X pc lv st := by
  subst hst0
  obtain ⟨p, l, e, R, s, m, args, below, meth, c, Q, D, A⟩ := K
  have hR : R = rL d := C.2.2.2.2.2.1
  have hG := lw_gi (ws := wsV own index qc.1 y (Cond.code y cy ny ret :: tA)) (by
    intro w hw
    rcases List.mem_append.mp hw with h | h
    · simp only [List.mem_cons, List.not_mem_nil, or_false] at h
      rcases h with rfl | rfl | rfl | rfl <;> assumption
    · rcases List.mem_cons.mp h with rfl | h <;> assumption)
  intro H locs ls hP hS hl
  have hF : ∀ q, va_A (wf X) H.size q → A q := fun q h => by
    rcases h with ⟨k, e, h⟩ | h
    · exact (C.2.2.2.2.2.2.2.1 X).2 k _ h
    · exact C.2.2.2.2.2.2.2.2 q (Nat.le_trans hS.1 h)
  exact va_callv (va_runV (As := As) (rest := rest) ⟨C.1, C.2.1, C.2.2.1, C.2.2.2.1, C.2.2.2.2.1⟩ (hM l D H.size) (cwV As.length C.2.2.2.2.1 (hG) rfl rfl rfl hy (by rw [hR]; exact ⟨hdd, by show _ + 40 * d2 ≤ 40 * d; omega⟩)) ⟨PcX_blind, va_recv C.2.2.2.2.2.2.1 hP hc hrc, fun U hU hW => ⟨rfl, by rw [hU], by rw [hU]; exact hP, va_K.moved hW.alike C.2.2.2.2.2.2.1, (C.2.2.2.2.2.2.2.1 X).weaken (fun _ _ _ _ => trivial)⟩⟩ rfl rfl hl.1 rfl (lv_room hr) hd ⟨Nat.zero_le _, Nat.zero_le _⟩) hS (fun q _ h => hF q h) hF (fun u t H1 locs1 ht hvm hw hB hz1 hk1 hS1 => kk u hw H1 locs1 ls (by rw [← ht]; exact hB) hS1 hl)
theorem x_callSi (C : XC K wf nL cc own d tys) {y : MethodName} {cy : ByteArray} {ny d2 index : Nat} {ret : Option FieldType} {post : Int32 → St → Prop} (As : List Value) (hM : ∀ l D, Ci l y cy ny ret d2 wf D tys As X post) (hlink : Cond.methodLink own index y ∈ tA) (hco : Cond.code y cy ny ret ∈ tA) (hst : Cond.static y ∈ tA) (hin : Cond.initialized y.cls ∈ tA) (hy : y.cls ≠ "java/lang/invoke/MethodHandle" ∧ y.cls ≠ "java/lang/invoke/VarHandle" ∧ (parseMethodDescriptor y.desc).map (fun d => d.parameters.length) = some As.length) (hdd : d2 + 1 ≤ d) (hny : ny ≤ 21) (hr : (rest.map fun v => v.category).sum ≤ 8) (hd : decode cc pc = .ok (.invokestatic index, 3)) {st : List Value} (hst0 : st = As.reverse ++ rest) (kk : ∀ (r : Int32) (X1 : St), post r X1 → WX K wf nL X1 (pc + 3) lv (.int r :: rest)) : WX K wf nL X pc lv st := by
  subst hst0
  obtain ⟨p, l, e, R, s, m, args, below, meth, c, Q, D, A⟩ := K
  have hR : R = rL d := C.2.2.2.2.2.1
  have hG := lw_gi (ws := va_wsS own index y (Cond.code y cy ny ret :: tA)) (by
    intro w hw
    rcases List.mem_append.mp hw with h | h
    · simp only [List.mem_cons, List.not_mem_nil, or_false] at h
      rcases h with rfl | rfl | rfl <;> assumption
    · rcases List.mem_cons.mp h with rfl | h <;> assumption)
  intro H locs ls hP hS hl
  have hF : ∀ q, va_A (wf X) H.size q → A q := fun q h => by
    rcases h with ⟨k, e, h⟩ | h
    · exact (C.2.2.2.2.2.2.2.1 X).2 k _ h
    · exact C.2.2.2.2.2.2.2.2 q (Nat.le_trans hS.1 h)
  exact va_calli (va_runS (As := As) (rest := rest) ⟨C.1, C.2.1, C.2.2.1, C.2.2.2.1, C.2.2.2.2.1⟩ (hM l D H.size) (va_cwS As.length C.2.2.2.2.1 (hG) rfl rfl rfl hy (by rw [hR]; exact ⟨hdd, by show _ + 40 * d2 ≤ 40 * d; omega⟩)) ⟨PcX_blind, fun U hU hW => ⟨rfl, by rw [hU], by rw [hU]; exact hP, va_K.moved hW.alike C.2.2.2.2.2.2.1, (C.2.2.2.2.2.2.2.1 X).weaken (fun _ _ _ _ => trivial)⟩⟩ rfl rfl hl.1 rfl (lv_room hr) hd ⟨Nat.zero_le _, Nat.zero_le _⟩) hS (fun q _ h => hF q h) hF (fun r u t H1 locs1 ht hvm hw hB hz1 hk1 hS1 => kk r u hw H1 locs1 ls (by rw [← ht]; exact hB) hS1 hl)
theorem x_callSl (C : XC K wf nL cc own d tys) {y : MethodName} {cy : ByteArray} {ny d2 index : Nat} {ret : Option FieldType} {post : Int64 → St → Prop} (As : List Value) (hM : ∀ l D, Cl l y cy ny ret d2 wf D tys As X post) (hlink : Cond.methodLink own index y ∈ tA) (hco : Cond.code y cy ny ret ∈ tA) (hst : Cond.static y ∈ tA) (hin : Cond.initialized y.cls ∈ tA) (hy : y.cls ≠ "java/lang/invoke/MethodHandle" ∧ y.cls ≠ "java/lang/invoke/VarHandle" ∧ (parseMethodDescriptor y.desc).map (fun d => d.parameters.length) = some As.length) (hdd : d2 + 1 ≤ d) (hny : ny ≤ 21) (hr : (rest.map fun v => v.category).sum ≤ 8) (hd : decode cc pc = .ok (.invokestatic index, 3)) {st : List Value} (hst0 : st = As.reverse ++ rest) (kk : ∀ (r : Int64) (X1 : St), post r X1 → WX K wf nL X1 (pc + 3) lv (.long r :: rest)) : WX K wf nL X pc lv st := by
  subst hst0
  obtain ⟨p, l, e, R, s, m, args, below, meth, c, Q, D, A⟩ := K
  have hR : R = rL d := C.2.2.2.2.2.1
  have hG := lw_gi (ws := va_wsS own index y (Cond.code y cy ny ret :: tA)) (by
    intro w hw
    rcases List.mem_append.mp hw with h | h
    · simp only [List.mem_cons, List.not_mem_nil, or_false] at h
      rcases h with rfl | rfl | rfl <;> assumption
    · rcases List.mem_cons.mp h with rfl | h <;> assumption)
  intro H locs ls hP hS hl
  have hF : ∀ q, va_A (wf X) H.size q → A q := fun q h => by
    rcases h with ⟨k, e, h⟩ | h
    · exact (C.2.2.2.2.2.2.2.1 X).2 k _ h
    · exact C.2.2.2.2.2.2.2.2 q (Nat.le_trans hS.1 h)
  exact va_calll (va_runS (As := As) (rest := rest) ⟨C.1, C.2.1, C.2.2.1, C.2.2.2.1, C.2.2.2.2.1⟩ (hM l D H.size) (va_cwS As.length C.2.2.2.2.1 (hG) rfl rfl rfl hy (by rw [hR]; exact ⟨hdd, by show _ + 40 * d2 ≤ 40 * d; omega⟩)) ⟨PcX_blind, fun U hU hW => ⟨rfl, by rw [hU], by rw [hU]; exact hP, va_K.moved hW.alike C.2.2.2.2.2.2.1, (C.2.2.2.2.2.2.2.1 X).weaken (fun _ _ _ _ => trivial)⟩⟩ rfl rfl hl.1 rfl (lv_room hr) hd ⟨Nat.zero_le _, Nat.zero_le _⟩) hS (fun q _ h => hF q h) hF (fun r u t H1 locs1 ht hvm hw hB hz1 hk1 hS1 => kk r u hw H1 locs1 ls (by rw [← ht]; exact hB) hS1 hl)
theorem x_callSv (C : XC K wf nL cc own d tys) {y : MethodName} {cy : ByteArray} {ny d2 index : Nat} {ret : Option FieldType} {post : St → Prop} (As : List Value) (hM : ∀ l D, Cv l y cy ny ret d2 wf D tys As X post) (hlink : Cond.methodLink own index y ∈ tA) (hco : Cond.code y cy ny ret ∈ tA) (hst : Cond.static y ∈ tA) (hin : Cond.initialized y.cls ∈ tA) (hy : y.cls ≠ "java/lang/invoke/MethodHandle" ∧ y.cls ≠ "java/lang/invoke/VarHandle" ∧ (parseMethodDescriptor y.desc).map (fun d => d.parameters.length) = some As.length) (hdd : d2 + 1 ≤ d) (hny : ny ≤ 21) (hr : (rest.map fun v => v.category).sum ≤ 8) (hd : decode cc pc = .ok (.invokestatic index, 3)) {st : List Value} (hst0 : st = As.reverse ++ rest) (kk : ∀ (X1 : St), post X1 → WX K wf nL X1 (pc + 3) lv (rest)) : WX K wf nL X pc lv st := by
  subst hst0
  obtain ⟨p, l, e, R, s, m, args, below, meth, c, Q, D, A⟩ := K
  have hR : R = rL d := C.2.2.2.2.2.1
  have hG := lw_gi (ws := va_wsS own index y (Cond.code y cy ny ret :: tA)) (by
    intro w hw
    rcases List.mem_append.mp hw with h | h
    · simp only [List.mem_cons, List.not_mem_nil, or_false] at h
      rcases h with rfl | rfl | rfl <;> assumption
    · rcases List.mem_cons.mp h with rfl | h <;> assumption)
  intro H locs ls hP hS hl
  have hF : ∀ q, va_A (wf X) H.size q → A q := fun q h => by
    rcases h with ⟨k, e, h⟩ | h
    · exact (C.2.2.2.2.2.2.2.1 X).2 k _ h
    · exact C.2.2.2.2.2.2.2.2 q (Nat.le_trans hS.1 h)
  exact va_callv (va_runS (As := As) (rest := rest) ⟨C.1, C.2.1, C.2.2.1, C.2.2.2.1, C.2.2.2.2.1⟩ (hM l D H.size) (va_cwS As.length C.2.2.2.2.1 (hG) rfl rfl rfl hy (by rw [hR]; exact ⟨hdd, by show _ + 40 * d2 ≤ 40 * d; omega⟩)) ⟨PcX_blind, fun U hU hW => ⟨rfl, by rw [hU], by rw [hU]; exact hP, va_K.moved hW.alike C.2.2.2.2.2.2.1, (C.2.2.2.2.2.2.2.1 X).weaken (fun _ _ _ _ => trivial)⟩⟩ rfl rfl hl.1 rfl (lv_room hr) hd ⟨Nat.zero_le _, Nat.zero_le _⟩) hS (fun q _ h => hF q h) hF (fun u t H1 locs1 ht hvm hw hB hz1 hk1 hS1 => kk u hw H1 locs1 ls (by rw [← ht]; exact hB) hS1 hl)
end XR
theorem m_i {l : Launch} {y : MethodName} {cc : ByteArray} {nL d : Nat} {wf : St → va_W} {D : va_G} {tys : List (ClassId × FieldType)} (avs : List Value) {X : St} {post : Int32 → St → Prop} {lv : List (Nat × Value)} (own : String) (hown : y.cls = own) (hwf : wfA wf) (hpn : plainName y.cls = true) (hnl : (lg_sl avs).length ≤ nL) (hlv : lv_args 0 avs = lv)
    (body : ∀ K : Cx, XC K wf nL cc own d tys → (∀ (v : Int32) (X1 : St) (pc : Nat) (lv1 : List (Nat × Value)), decode cc pc = .ok (.ireturn, 1) → post v X1 → WX K wf nL X1 pc lv1 [.int v]) → WX K wf nL X 0 lv []) : Ci l y cc nL (some .int) d wf D tys avs X post := by
  intro sz
  refine Met.ofW (cc := cc) (maxL := nL) (ret := (some .int)) hpn rfl ?_
  intro p e s m args below meth c s₁ B hml hv
  obtain ⟨rfl, hsz, hP, hK, hD0⟩ := hv
  have hts := atoms_spec (ws := .code y cc nL (some .int) :: tA) B.pre
  have hfc : s.vm.findClass own = some m.cls := by rw [← hown]; exact findClass_of_methodNamed B.named
  have hlocks := B.notSynchronized
  have hr := B.returns
  subst hsz
  subst hlv
  have hl := lv_entry avs (n := nL) hnl
  rw [lg_entry_eq]
  have hC : XC (p, l, e, (headSpec (.code y cc nL (some .int) :: tA) (rL d)).room, s, m, avs.toArray, below, meth, c, MQ below (va_Qi post (fun u t => va_P D vwCl (wf u) t.heap) (va_A (wf X) s.heap.size)) avs.toArray s 0 0 (va_A (wf X) s.heap.size), D, va_A (wf X) s.heap.size) wf nL cc own d tys := ⟨B.exec, B.bytes, hml, hfc, fun w hw => hts w (List.mem_cons_of_mem _ hw), rfl, hK, fun Y => va_D.adr (hwf X Y) hD0.self, fun q h => Or.inr h⟩
  exact body _ hC (fun v X1 pc lv1 hd hp H locs ls hP hS hl => W.iret B.exec B.bytes hr (fun t ht hW => ⟨⟨v, X1, rfl, hp, by show va_P D vwCl (wf X1) t.heap; rw [ht]; exact hP⟩, hS.F ht⟩) hS.2.2 hd) s.heap [] _ hP va_S.rf hl
theorem m_z {l : Launch} {y : MethodName} {cc : ByteArray} {nL d : Nat} {wf : St → va_W} {D : va_G} {tys : List (ClassId × FieldType)} (avs : List Value) {X : St} {post : Int32 → St → Prop} {lv : List (Nat × Value)} (own : String) (hown : y.cls = own) (hwf : wfA wf) (hpn : plainName y.cls = true) (hnl : (lg_sl avs).length ≤ nL) (hlv : lv_args 0 avs = lv)
    (body : ∀ K : Cx, XC K wf nL cc own d tys → (∀ (v : Int32) (X1 : St) (pc : Nat) (lv1 : List (Nat × Value)), decode cc pc = .ok (.ireturn, 1) → narrow .boolean (.int v) = .int v → post v X1 → WX K wf nL X1 pc lv1 [.int v]) → WX K wf nL X 0 lv []) : Ci l y cc nL (some .boolean) d wf D tys avs X post := by
  intro sz
  refine Met.ofW (cc := cc) (maxL := nL) (ret := (some .boolean)) hpn rfl ?_
  intro p e s m args below meth c s₁ B hml hv
  obtain ⟨rfl, hsz, hP, hK, hD0⟩ := hv
  have hts := atoms_spec (ws := .code y cc nL (some .boolean) :: tA) B.pre
  have hfc : s.vm.findClass own = some m.cls := by rw [← hown]; exact findClass_of_methodNamed B.named
  have hlocks := B.notSynchronized
  have hr := B.returns
  subst hsz
  subst hlv
  have hl := lv_entry avs (n := nL) hnl
  rw [lg_entry_eq]
  have hC : XC (p, l, e, (headSpec (.code y cc nL (some .boolean) :: tA) (rL d)).room, s, m, avs.toArray, below, meth, c, MQ below (va_Qi post (fun u t => va_P D vwCl (wf u) t.heap) (va_A (wf X) s.heap.size)) avs.toArray s 0 0 (va_A (wf X) s.heap.size), D, va_A (wf X) s.heap.size) wf nL cc own d tys := ⟨B.exec, B.bytes, hml, hfc, fun w hw => hts w (List.mem_cons_of_mem _ hw), rfl, hK, fun Y => va_D.adr (hwf X Y) hD0.self, fun q h => Or.inr h⟩
  exact body _ hC (fun v X1 pc lv1 hd hnr hp H locs ls hP hS hl => W.zret B.exec B.bytes hr hnr (fun t ht hW => ⟨⟨v, X1, rfl, hp, by show va_P D vwCl (wf X1) t.heap; rw [ht]; exact hP⟩, hS.F ht⟩) hS.2.2 hd) s.heap [] _ hP va_S.rf hl
theorem m_l {l : Launch} {y : MethodName} {cc : ByteArray} {nL d : Nat} {wf : St → va_W} {D : va_G} {tys : List (ClassId × FieldType)} (avs : List Value) {X : St} {post : Int64 → St → Prop} {lv : List (Nat × Value)} (own : String) (hown : y.cls = own) (hwf : wfA wf) (hpn : plainName y.cls = true) (hnl : (lg_sl avs).length ≤ nL) (hlv : lv_args 0 avs = lv)
    (body : ∀ K : Cx, XC K wf nL cc own d tys → (∀ (v : Int64) (X1 : St) (pc : Nat) (lv1 : List (Nat × Value)), decode cc pc = .ok (.lreturn, 1) → post v X1 → WX K wf nL X1 pc lv1 [.long v]) → WX K wf nL X 0 lv []) : Cl l y cc nL (some .long) d wf D tys avs X post := by
  intro sz
  refine Met.ofW (cc := cc) (maxL := nL) (ret := (some .long)) hpn rfl ?_
  intro p e s m args below meth c s₁ B hml hv
  obtain ⟨rfl, hsz, hP, hK, hD0⟩ := hv
  have hts := atoms_spec (ws := .code y cc nL (some .long) :: tA) B.pre
  have hfc : s.vm.findClass own = some m.cls := by rw [← hown]; exact findClass_of_methodNamed B.named
  have hlocks := B.notSynchronized
  have hr := B.returns
  subst hsz
  subst hlv
  have hl := lv_entry avs (n := nL) hnl
  rw [lg_entry_eq]
  have hC : XC (p, l, e, (headSpec (.code y cc nL (some .long) :: tA) (rL d)).room, s, m, avs.toArray, below, meth, c, MQ below (va_Ql post (fun u t => va_P D vwCl (wf u) t.heap) (va_A (wf X) s.heap.size)) avs.toArray s 0 0 (va_A (wf X) s.heap.size), D, va_A (wf X) s.heap.size) wf nL cc own d tys := ⟨B.exec, B.bytes, hml, hfc, fun w hw => hts w (List.mem_cons_of_mem _ hw), rfl, hK, fun Y => va_D.adr (hwf X Y) hD0.self, fun q h => Or.inr h⟩
  exact body _ hC (fun v X1 pc lv1 hd hp H locs ls hP hS hl => W.lret B.exec B.bytes hr (fun t ht hW => ⟨⟨v, X1, rfl, hp, by show va_P D vwCl (wf X1) t.heap; rw [ht]; exact hP⟩, hS.F ht⟩) hS.2.2 hd) s.heap [] _ hP va_S.rf hl
theorem m_v {l : Launch} {y : MethodName} {cc : ByteArray} {nL d : Nat} {wf : St → va_W} {D : va_G} {tys : List (ClassId × FieldType)} (avs : List Value) {X : St} {post : St → Prop} {lv : List (Nat × Value)} (own : String) (hown : y.cls = own) (hwf : wfA wf) (hpn : plainName y.cls = true) (hnl : (lg_sl avs).length ≤ nL) (hlv : lv_args 0 avs = lv)
    (body : ∀ K : Cx, XC K wf nL cc own d tys → (∀ (X1 : St) (pc : Nat) (lv1 : List (Nat × Value)), decode cc pc = .ok (.return_, 1) → post X1 → WX K wf nL X1 pc lv1 []) → WX K wf nL X 0 lv []) : Cv l y cc nL none d wf D tys avs X post := by
  intro sz
  refine Met.ofW (cc := cc) (maxL := nL) (ret := none) hpn rfl ?_
  intro p e s m args below meth c s₁ B hml hv
  obtain ⟨rfl, hsz, hP, hK, hD0⟩ := hv
  have hts := atoms_spec (ws := .code y cc nL none :: tA) B.pre
  have hfc : s.vm.findClass own = some m.cls := by rw [← hown]; exact findClass_of_methodNamed B.named
  have hlocks := B.notSynchronized
  have hr := B.returns
  subst hsz
  subst hlv
  have hl := lv_entry avs (n := nL) hnl
  rw [lg_entry_eq]
  have hC : XC (p, l, e, (headSpec (.code y cc nL none :: tA) (rL d)).room, s, m, avs.toArray, below, meth, c, MQ below (va_Qv post (fun u t => va_P D vwCl (wf u) t.heap) (va_A (wf X) s.heap.size)) avs.toArray s 0 0 (va_A (wf X) s.heap.size), D, va_A (wf X) s.heap.size) wf nL cc own d tys := ⟨B.exec, B.bytes, hml, hfc, fun w hw => hts w (List.mem_cons_of_mem _ hw), rfl, hK, fun Y => va_D.adr (hwf X Y) hD0.self, fun q h => Or.inr h⟩
  exact body _ hC (fun X1 pc lv1 hd hp H locs ls hP hS hl => W.vret B.exec B.bytes hr (fun t ht hW => ⟨⟨X1, rfl, hp, by show va_P D vwCl (wf X1) t.heap; rw [ht]; exact hP⟩, hS.F ht⟩) hS.2.2 hd) s.heap [] _ hP va_S.rf hl
