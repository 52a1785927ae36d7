/-- a world that grows: cells, slots made so far -/
def NXl : List Cond := [.methodLinkNest RX8 11 yX2_init RX8, .methodLinkNest RX8 18 yX3_init RX8, .methodLinkNest RX8 32 yX6_init RX8, .methodLinkNest RX8 39 yX1_init RX8, .methodLinkNest RX8 46 yX0_init RX8, .methodLinkNest RX8 60 yX5_init RX8]
def Nx (U : State) : Prop := (∀ w ∈ NXl, va_Nw w U) ∧ va_Nw (.arrayOver (.array .int)) U ∧ va_Nw (.arrayOver (.array .byte)) U
theorem Nw_over {ty : FieldType} {u U : State} (h : u.vm.Alike U.vm) (hZ : va_Nw (.arrayOver ty) u) : va_Nw (.arrayOver ty) U := by
  have e : (Cond.arrayOver ty).before #[] (u.setVm U.vm) = (Cond.arrayOver ty).before #[] u := Cond.arrayOver_setVmC h ty
  have e2 : (Cond.arrayOver ty).before #[] (u.setVm U.vm) = (Cond.arrayOver ty).before #[] U := rfl
  exact e2.symm.trans (e.trans hZ)
theorem Nx_same {u U : State} (h : u.vm = U.vm) (hZ : Nx u) : Nx U := by
  refine ⟨fun w hw => ?_, Nw_over (h ▸ Vm.Alike.refl u.vm) hZ.2.1, Nw_over (h ▸ Vm.Alike.refl u.vm) hZ.2.2⟩
  have h1 := hZ.1 w hw
  simp only [NXl, List.mem_cons, List.not_mem_nil, or_false] at hw
  rcases hw with rfl | rfl | rfl | rfl | rfl | rfl <;> exact va_Nw.same rfl h h1
theorem Nx_warm {s U : State} (hW : s.WarmedH U.vm) (hZ : Nx s) : Nx U := by
  refine ⟨fun w hw => ?_, Nw_over hW.alike hZ.2.1, Nw_over hW.alike hZ.2.2⟩
  have h1 := hZ.1 w hw
  simp only [NXl, List.mem_cons, List.not_mem_nil, or_false] at hw
  rcases hw with rfl | rfl | rfl | rfl | rfl | rfl <;> exact va_Nw.warmM hW h1
def WN (K : Cx) (nL kc ns : Nat) (ws : va_W) (pc : Nat) (lv : List (Nat × Value)) (st : List Value) : Prop := match K with
  | (p, l, e, R, s, m, args, below, meth, c, Q, D, A) => ∀ (H : Heap) (locs : List Loc) (ls : Array Slot), va_P D vwCl ws H → va_D A ws → va_S A s.heap H locs → lv_has ls nL lv → W p l e R s m args below meth c H locs kc ns Q (F0 m pc ls st)
def NC (K : Cx) (nL : Nat) (cc : ByteArray) (own : String) (rm : Room) (tys : List (ClassId × FieldType)) : Prop := match K with
  | (p, l, e, R, s, m, args, below, meth, c, Q, D, A) => p.tables.exec = Jvm.exec ∧ c.code = cc ∧ c.maxLocals = nL ∧ s.vm.findClass own = some m.cls ∧ (∀ w ∈ tA, w.before args s = true) ∧ R = rm ∧ va_K D vwCl tys s ∧ (∀ q, s.heap.size ≤ q → A q) ∧ Nx s
def NI (K : Cx) : Prop := match K with
  | (p, l, e, R, s, m, args, below, meth, c, Q, D, A) => meth.name = "<init>"
theorem fm_sub {is : List Nat} {ws ws' : va_W} (h : is.map (fun i => ws[i]?) = ws'.map some) : is.filterMap (fun i => ws[i]?) = ws' := by
  have e : is.filterMap (fun i => ws[i]?) = (is.map (fun i => ws[i]?)).filterMap id := by
    rw [List.filterMap_map]; rfl
  rw [e, h, List.filterMap_map]
  exact List.filterMap_some
theorem RA_inj {U : State} {c c' : ClassId} {ty : FieldType} (h : va_RA U c ty) (h' : va_RA U c' ty) : c = c' := by
  cases ty with
  | object C =>
    obtain ⟨_, _, _, _, _, h1⟩ := h
    obtain ⟨_, _, _, _, _, h2⟩ := h'
    exact Option.some.inj (h1.symm.trans h2)
  | _ => exact Option.some.inj (Eq.trans (Eq.symm h) h')
theorem w_fst {D : va_G} {cl : List vw_C} {a b : va_W} {H : Heap} (h : va_P D cl (a ++ b) H) : va_P D cl a H := fun k q hq => h k q (by rw [List.getElem?_append_left (List.getElem?_eq_some_iff.mp hq).1]; exact hq)
theorem w_snd {D : va_G} {cl : List vw_C} {a b : va_W} {H : Heap} (h : va_P D cl (a ++ b) H) : va_P D cl b H := fun k q hq => h (a.length + k) q (by rw [List.getElem?_append_right (Nat.le_add_right _ _), Nat.add_sub_cancel_left]; exact hq)
theorem w_dfst {A : Nat → Prop} {a b : va_W} (h : va_D A (a ++ b)) : va_D A a := by
  have e : ∀ (k : Nat) (q : Nat × va_E), a[k]? = some q → (a ++ b)[k]? = some q := fun k q hq => by rw [List.getElem?_append_left (List.getElem?_eq_some_iff.mp hq).1]; exact hq
  exact ⟨fun i j p q hi hj hpq => h.1 i j p q (e i p hi) (e j q hj) hpq, fun k q hq => h.2 k q (e k q hq)⟩
/-- the frame: what the callee left stands beside the rest, which is unchanged -/
theorem w_join {A0 : Nat → Prop} {D : va_G} {cl : List vw_C} {wc wr w1 : va_W} {H H1 : Heap} (hP : va_P D cl (wc ++ wr) H) (hD : va_D A0 (wc ++ wr)) (hk : ∀ q : Nat, q < H.size → ¬ va_A wc H.size q → H1[q]? = H[q]?) (hF : ∀ q, va_A wc H.size q → A0 q) (hP1 : va_P D cl w1 H1) (hD1 : va_D (va_A wc H.size) w1) : va_P D cl (w1 ++ wr) H1 ∧ va_D A0 (w1 ++ wr) := by
  have er : ∀ (k : Nat) (q : Nat × va_E), wr[k]? = some q → (wc ++ wr)[wc.length + k]? = some q := fun k q hq => by rw [List.getElem?_append_right (Nat.le_add_right _ _), Nat.add_sub_cancel_left]; exact hq
  have ec : ∀ (k : Nat) (q : Nat × va_E), wc[k]? = some q → (wc ++ wr)[k]? = some q ∧ k < wc.length := fun k q hq => ⟨by rw [List.getElem?_append_left (List.getElem?_eq_some_iff.mp hq).1]; exact hq, (List.getElem?_eq_some_iff.mp hq).1⟩
  have hno : ∀ (k : Nat) (q : Nat × va_E), wr[k]? = some q → ¬ va_A wc H.size q.1 := fun k q hq ha => by
    rcases ha with ⟨j, e, hj⟩ | h
    · have := hD.1 j (wc.length + k) _ _ (ec _ _ hj).1 (er k q hq) rfl
      have := (ec _ _ hj).2
      omega
    · have := (hP _ _ (er k q hq)).lt
      omega
  have sp : ∀ (k : Nat) (q : Nat × va_E), (w1 ++ wr)[k]? = some q → (w1[k]? = some q ∧ k < w1.length) ∨ ∃ j, k = w1.length + j ∧ wr[j]? = some q := fun k q hq => by
    rcases Nat.lt_or_ge k w1.length with h | h
    · rw [List.getElem?_append_left h] at hq
      exact Or.inl ⟨hq, h⟩
    · rw [List.getElem?_append_right h] at hq
      exact Or.inr ⟨k - w1.length, by omega, hq⟩
  refine ⟨fun k q hq => ?_, fun i j p q hi hj hpq => ?_, fun k q hq => ?_⟩
  · rcases sp k q hq with ⟨h, -⟩ | ⟨j, -, h⟩
    · exact hP1 k q h
    · exact (hP _ _ (er j q h)).kept (hk q.1 ((hP _ _ (er j q h)).lt) (hno j q h))
  · rcases sp i p hi with ⟨h1, l1⟩ | ⟨i', e1, h1⟩ <;> rcases sp j q hj with ⟨h2, l2⟩ | ⟨j', e2, h2⟩
    · exact hD1.1 i j p q h1 h2 hpq
    · exact absurd (hpq ▸ hD1.2 i p h1) (hno j' q h2)
    · exact absurd (hpq ▸ hD1.2 j q h2) (hno i' p h1)
    · have := hD.1 _ _ _ _ (er i' p h1) (er j' q h2) hpq
      omega
  · rcases sp k q hq with ⟨h, -⟩ | ⟨j, -, h⟩
    · exact hF _ (hD1.2 k q h)
    · exact hD.2 _ _ (er j q h)
theorem w_swap {D : va_G} {cl : List vw_C} {a b : va_W} {H : Heap} (h : va_P D cl (a ++ b) H) : va_P D cl (b ++ a) H := va_P.swap (a := []) h
theorem w_dswap {A : Nat → Prop} {a b : va_W} (h : va_D A (a ++ b)) : va_D A (b ++ a) := va_D.swap (a := []) h
section NR
variable {K : Cx} {nL kc ns : Nat} {ws : va_W} {cc : ByteArray} {own : String} {rm : Room} {tys : List (ClassId × FieldType)} {pc : Nat} {lv : List (Nat × Value)} {rest : List Value}
theorem n_iconst (C : NC K nL cc own rm tys) {n : Int} {v : Int32} (hd : decode cc pc = .ok (.iconst n, 1)) (hv : Int32.ofInt n = v) (k : WN K nL kc ns ws (pc + 1) lv (.int v :: rest)) : WN K nL kc ns ws pc lv (rest) := by
  obtain ⟨p, l, e, R, s, m, args, below, meth, c, Q, D, A⟩ := K
  exact fun H locs ls hP hD hS hl => lv_iconst C.1 C.2.1 hd hv (k H locs ls hP hD hS hl)
theorem n_bipush (C : NC K nL cc own rm tys) {n : Int} {v : Int32} (hd : decode cc pc = .ok (.bipush n, 2)) (hv : (Int8.ofInt n).toInt32 = v) (k : WN K nL kc ns ws (pc + 2) lv (.int v :: rest)) : WN K nL kc ns ws pc lv (rest) := by
  obtain ⟨p, l, e, R, s, m, args, below, meth, c, Q, D, A⟩ := K
  exact fun H locs ls hP hD hS hl => lv_bipush C.1 C.2.1 hd hv (k H locs ls hP hD hS hl)
theorem n_sipush (C : NC K nL cc own rm tys) {n : Int} {v : Int32} (hd : decode cc pc = .ok (.sipush n, 3)) (hv : (Int16.ofInt n).toInt32 = v) (k : WN K nL kc ns ws (pc + 3) lv (.int v :: rest)) : WN K nL kc ns ws pc lv (rest) := by
  obtain ⟨p, l, e, R, s, m, args, below, meth, c, Q, D, A⟩ := K
  exact fun H locs ls hP hD hS hl => lv_sipush C.1 C.2.1 hd hv (k H locs ls hP hD hS hl)
theorem n_ldc (C : NC K nL cc own rm tys) {index : Nat} {v : Int32} (hd : decode cc pc = .ok (.ldc index, 2)) (hc : Cond.constant own index v ∈ tA) (k : WN K nL kc ns ws (pc + 2) lv (.int v :: rest)) : WN K nL kc ns ws pc lv rest := by
  obtain ⟨p, l, e, R, s, m, args, below, meth, c, Q, D, A⟩ := K
  exact fun H locs ls hP hD hS hl => lv_ldc C.1 C.2.1 C.2.2.2.1 (C.2.2.2.2.1 _ hc) hd (k H locs ls hP hD hS hl)
theorem n_iload_n (C : NC K nL cc own rm tys) {k : Fin 4} {i : Nat} {x : Int32} (hd : decode cc pc = .ok (.iload_n k, 1)) (q : Nat) (hi : (k : Nat) = i) (hq : lv[q]? = some (i, .int x)) (kk : WN K nL kc ns ws (pc + 1) lv (.int x :: rest)) : WN K nL kc ns ws pc lv rest := by
  obtain ⟨p, l, e, R, s, m, args, below, meth, c, Q, D, A⟩ := K
  exact fun H locs ls hP hD hS hl => lv_iload_n C.1 C.2.1 hd hi (lv_at hl q hq) (kk H locs ls hP hD hS hl)
theorem n_aload_n (C : NC K nL cc own rm tys) {k : Fin 4} {i : Nat} {x : Nat} (hd : decode cc pc = .ok (.aload_n k, 1)) (q : Nat) (hi : (k : Nat) = i) (hq : lv[q]? = some (i, .ref x)) (kk : WN K nL kc ns ws (pc + 1) lv (.ref x :: rest)) : WN K nL kc ns ws pc lv rest := by
  obtain ⟨p, l, e, R, s, m, args, below, meth, c, Q, D, A⟩ := K
  exact fun H locs ls hP hD hS hl => lv_aload_n C.1 C.2.1 hd hi (lv_at hl q hq) (kk H locs ls hP hD hS hl)
theorem n_istore_n (C : NC K nL cc own rm tys) {k : Fin 4} {i : Nat} {x : Int32} (hd : decode cc pc = .ok (.istore_n k, 1)) (lv1 : List (Nat × Value)) (ks : List Nat) (hi : (k : Nat) = i) (hn : i < nL) (hl1 : lv_pick ((i, Value.int x) :: lv.filter (fun q => !(q.1 == i) && !(q.1 + 1 == i && q.2.category == 2))) ks = lv1) (kk : WN K nL kc ns ws (pc + 1) lv1 rest) : WN K nL kc ns ws pc lv (.int x :: rest) := by
  obtain ⟨p, l, e, R, s, m, args, below, meth, c, Q, D, A⟩ := K
  exact fun H locs ls hP hD hS hl => lv_istore_n C.1 C.2.1 hd hi hl hn rfl (fun ls1 h1 => kk H locs ls1 hP hD hS (lv_sub h1 ks hl1))
theorem n_astore_n (C : NC K nL cc own rm tys) {k : Fin 4} {i : Nat} {x : Nat} (hd : decode cc pc = .ok (.astore_n k, 1)) (lv1 : List (Nat × Value)) (ks : List Nat) (hi : (k : Nat) = i) (hn : i < nL) (hl1 : lv_pick ((i, Value.ref x) :: lv.filter (fun q => !(q.1 == i) && !(q.1 + 1 == i && q.2.category == 2))) ks = lv1) (kk : WN K nL kc ns ws (pc + 1) lv1 rest) : WN K nL kc ns ws pc lv (.ref x :: rest) := by
  obtain ⟨p, l, e, R, s, m, args, below, meth, c, Q, D, A⟩ := K
  exact fun H locs ls hP hD hS hl => lv_astore_n C.1 C.2.1 hd hi hl hn rfl (fun ls1 h1 => kk H locs ls1 hP hD hS (lv_sub h1 ks hl1))
theorem n_iinc (C : NC K nL cc own rm tys) {i : Nat} {n : Int} {x v : Int32} (hd : decode cc pc = .ok (.iinc i n, 3)) (q : Nat) (lv1 : List (Nat × Value)) (ks : List Nat) (hq : lv[q]? = some (i, .int x)) (hv : x + Int32.ofInt n = v) (hn : i < nL) (hl1 : lv_pick ((i, Value.int v) :: lv.filter (fun q => !(q.1 == i) && !(q.1 + 1 == i && q.2.category == 2))) ks = lv1) (kk : WN K nL kc ns ws (pc + 3) lv1 rest) : WN K nL kc ns ws pc lv rest := by
  obtain ⟨p, l, e, R, s, m, args, below, meth, c, Q, D, A⟩ := K
  exact fun H locs ls hP hD hS hl => lv_iinc C.1 C.2.1 hd hl hq hv hn rfl (fun ls1 h1 => kk H locs ls1 hP hD hS (lv_sub h1 ks hl1))
theorem n_sub (lv1 : List (Nat × Value)) (ks : List Nat) (h : lv_pick lv ks = lv1) (k : WN K nL kc ns ws pc lv1 rest) : WN K nL kc ns ws pc lv rest := by
  obtain ⟨p, l, e, R, s, m, args, below, meth, c, Q, D, A⟩ := K
  exact fun H locs ls hP hD hS hl => k H locs ls hP hD hS (lv_sub hl ks h)
theorem n_iadd (C : NC K nL cc own rm tys) {x y : Int32} (hd : decode cc pc = .ok (.iadd, 1))  (k : WN K nL kc ns ws (pc + 1) lv (.int (x + y) :: rest)) : WN K nL kc ns ws pc lv (.int y :: .int x :: rest) := by
  obtain ⟨p, l, e, R, s, m, args, below, meth, c, Q, D, A⟩ := K
  exact fun H locs ls hP hD hS hl => lv_iadd C.1 C.2.1 hd (k H locs ls hP hD hS hl)
theorem n_isub (C : NC K nL cc own rm tys) {x y : Int32} (hd : decode cc pc = .ok (.isub, 1))  (k : WN K nL kc ns ws (pc + 1) lv (.int (x - y) :: rest)) : WN K nL kc ns ws pc lv (.int y :: .int x :: rest) := by
  obtain ⟨p, l, e, R, s, m, args, below, meth, c, Q, D, A⟩ := K
  exact fun H locs ls hP hD hS hl => lv_isub C.1 C.2.1 hd (k H locs ls hP hD hS hl)
theorem n_iand (C : NC K nL cc own rm tys) {x y : Int32} (hd : decode cc pc = .ok (.iand, 1))  (k : WN K nL kc ns ws (pc + 1) lv (.int (x &&& y) :: rest)) : WN K nL kc ns ws pc lv (.int y :: .int x :: rest) := by
  obtain ⟨p, l, e, R, s, m, args, below, meth, c, Q, D, A⟩ := K
  exact fun H locs ls hP hD hS hl => lv_iand C.1 C.2.1 hd (k H locs ls hP hD hS hl)
theorem n_lcmp (C : NC K nL cc own rm tys) {x y : Int64} (hd : decode cc pc = .ok (.lcmp, 1))  (k : WN K nL kc ns ws (pc + 1) lv (.int (lg_cmp x y) :: rest)) : WN K nL kc ns ws pc lv (.long y :: .long x :: rest) := by
  obtain ⟨p, l, e, R, s, m, args, below, meth, c, Q, D, A⟩ := K
  exact fun H locs ls hP hD hS hl => W.lcmp C.1 C.2.1 hd (k H locs ls hP hD hS hl)
theorem n_dup (C : NC K nL cc own rm tys) {va : Value} (hd : decode cc pc = .ok (.dup, 1)) (hv : va.category = 1) (k : WN K nL kc ns ws (pc + 1) lv (va :: va :: rest)) : WN K nL kc ns ws pc lv (va :: rest) := by
  obtain ⟨p, l, e, R, s, m, args, below, meth, c, Q, D, A⟩ := K
  exact fun H locs ls hP hD hS hl => lv_dup C.1 C.2.1 hd hv (k H locs ls hP hD hS hl)
theorem n_if_eq (C : NC K nL cc own rm tys) {x : Int32} {off : Int} {tgt : Nat} (hd : decode cc pc = .ok (.ifCond .eq off, 3)) (ht : (pc : Int) + off = (tgt : Int)) (kt : x = 0 → WN K nL kc ns ws tgt lv rest) (kf : ¬ (x = 0) → WN K nL kc ns ws (pc + 3) lv rest) : WN K nL kc ns ws pc lv (.int x :: rest) := by
  obtain ⟨p, l, e, R, s, m, args, below, meth, c, Q, D, A⟩ := K
  exact fun H locs ls hP hD hS hl => lv_if_eq C.1 C.2.1 hd ht (fun h => kt h H locs ls hP hD hS hl) (fun h => kf h H locs ls hP hD hS hl)
theorem n_icmp_eq (C : NC K nL cc own rm tys) {x y : Int32} {off : Int} {tgt : Nat} (hd : decode cc pc = .ok (.if_icmp .eq off, 3)) (ht : (pc : Int) + off = (tgt : Int)) (kt : x = y → WN K nL kc ns ws tgt lv rest) (kf : ¬ (x = y) → WN K nL kc ns ws (pc + 3) lv rest) : WN K nL kc ns ws pc lv (.int y :: .int x :: rest) := by
  obtain ⟨p, l, e, R, s, m, args, below, meth, c, Q, D, A⟩ := K
  exact fun H locs ls hP hD hS hl => lv_icmp_eq C.1 C.2.1 hd ht (fun h => kt h H locs ls hP hD hS hl) (fun h => kf h H locs ls hP hD hS hl)
theorem n_icmp_gt (C : NC K nL cc own rm tys) {x y : Int32} {off : Int} {tgt : Nat} (hd : decode cc pc = .ok (.if_icmp .gt off, 3)) (ht : (pc : Int) + off = (tgt : Int)) (kt : y < x → WN K nL kc ns ws tgt lv rest) (kf : ¬ (y < x) → WN K nL kc ns ws (pc + 3) lv rest) : WN K nL kc ns ws pc lv (.int y :: .int x :: rest) := by
  obtain ⟨p, l, e, R, s, m, args, below, meth, c, Q, D, A⟩ := K
  exact fun H locs ls hP hD hS hl => lv_icmp_gt C.1 C.2.1 hd ht (fun h => kt h H locs ls hP hD hS hl) (fun h => kf h H locs ls hP hD hS hl)
theorem n_icmp_ge (C : NC K nL cc own rm tys) {x y : Int32} {off : Int} {tgt : Nat} (hd : decode cc pc = .ok (.if_icmp .ge off, 3)) (ht : (pc : Int) + off = (tgt : Int)) (kt : y ≤ x → WN K nL kc ns ws tgt lv rest) (kf : ¬ (y ≤ x) → WN K nL kc ns ws (pc + 3) lv rest) : WN K nL kc ns ws pc lv (.int y :: .int x :: rest) := by
  obtain ⟨p, l, e, R, s, m, args, below, meth, c, Q, D, A⟩ := K
  exact fun H locs ls hP hD hS hl => lv_icmp_ge C.1 C.2.1 hd ht (fun h => kt h H locs ls hP hD hS hl) (fun h => kf h H locs ls hP hD hS hl)
theorem n_goto (C : NC K nL cc own rm tys) {off : Int} {tgt : Nat} (hd : decode cc pc = .ok (.goto off, 3)) (ht : (pc : Int) + off = (tgt : Int)) (k : WN K nL kc ns ws tgt lv rest) : WN K nL kc ns ws pc lv rest := by
  obtain ⟨p, l, e, R, s, m, args, below, meth, c, Q, D, A⟩ := K
  exact fun H locs ls hP hD hS hl => lv_goto C.1 C.2.1 hd ht (k H locs ls hP hD hS hl)
theorem n_tin (C : NC K nL cc own rm tys) {dflt lo hi : Int} {offs : Array Int} {len : Nat} {x : Int32} {off : Int} {tgt : Nat} (hd : decode cc pc = .ok (.tableswitch dflt lo hi offs, len)) (h1 : ¬ x.toInt < lo) (h2 : ¬ hi < x.toInt) (ho : offs[(x.toInt - lo).toNat]? = some off) (ht : (pc : Int) + off = (tgt : Int)) (k : WN K nL kc ns ws tgt lv rest) : WN K nL kc ns ws pc lv (.int x :: rest) := by
  obtain ⟨p, l, e, R, s, m, args, below, meth, c, Q, D, A⟩ := K
  exact fun H locs ls hP hD hS hl => lv_tableIn C.1 C.2.1 hd h1 h2 ho ht (k H locs ls hP hD hS hl)
theorem n_tout (C : NC K nL cc own rm tys) {dflt lo hi : Int} {offs : Array Int} {len : Nat} {x : Int32} {tgt : Nat} (hd : decode cc pc = .ok (.tableswitch dflt lo hi offs, len)) (h : x.toInt < lo ∨ hi < x.toInt) (ht : (pc : Int) + dflt = (tgt : Int)) (k : WN K nL kc ns ws tgt lv rest) : WN K nL kc ns ws pc lv (.int x :: rest) := by
  obtain ⟨p, l, e, R, s, m, args, below, meth, c, Q, D, A⟩ := K
  exact fun H locs ls hP hD hS hl => lv_tableOut C.1 C.2.1 hd h ht (k H locs ls hP hD hS hl)
theorem n_top {x y : Int32} (h : x = y) (k : WN K nL kc ns ws pc lv (.int y :: rest)) : WN K nL kc ns ws pc lv (.int x :: rest) := h ▸ k
theorem n_ws {ws' : va_W} (h : ws = ws') (k : WN K nL kc ns ws' pc lv rest) : WN K nL kc ns ws pc lv rest := h ▸ k
theorem n_take (ws' : va_W) (is : List Nat) (hn : va_nd is = true) (hs : is.map (fun i => ws[i]?) = ws'.map some) (k : WN K nL kc ns ws' pc lv rest) : WN K nL kc ns ws pc lv rest := by
  obtain ⟨p, l, e, R, s, m, args, below, meth, c, Q, D, A⟩ := K
  exact fun H locs ls hP hD hS hl => k H locs ls (hP.sub is (fm_sub hs)) (hD.sub is hn hs) hS hl
theorem n_swap {a b : va_W} (k : WN K nL kc ns (b ++ a) pc lv rest) : WN K nL kc ns (a ++ b) pc lv rest := by
  obtain ⟨p, l, e, R, s, m, args, below, meth, c, Q, D, A⟩ := K
  exact fun H locs ls hP hD hS hl => k H locs ls (w_swap hP) (w_dswap hD) hS hl
theorem n_wide {kc' ns' : Nat} (h1 : kc ≤ kc') (h2 : ns ≤ ns') (k : WN K nL kc' ns' ws pc lv rest) : WN K nL kc ns ws pc lv rest := by
  obtain ⟨p, l, e, R, s, m, args, below, meth, c, Q, D, A⟩ := K
  exact fun H locs ls hP hD hS hl => W.widen h1 h2 (k H locs ls hP hD hS hl)
theorem n_obj (C : NC K nL cc own rm tys) {idx a : Nat} (hl : Cond.methodLink own idx objectInit ∈ tA) (hd : decode cc pc = .ok (.invokespecial idx, 3)) (hf : 1 ≤ rm.frames) (hlo : 12 ≤ rm.locals) (k : WN K nL kc ns ws (pc + 3) lv []) : WN K nL kc ns ws pc lv [.ref a] := by
  obtain ⟨p, l, e, R, s, m, args, below, meth, c, Q, D, A⟩ := K
  have hR : R = rm := C.2.2.2.2.2.1
  subst hR
  exact fun H locs ls hP hD hS hll => W.objInit C.1 C.2.1 C.2.2.2.1 (C.2.2.2.2.1 _ hl) (C.2.2.2.2.1 _ im_obj) (C.2.2.2.2.1 _ co_obj) rfl (hll.1.trans C.2.2.1.symm) rfl hd hf hlo (k H locs ls hP hD hS hll)
theorem n_newa (C : NC K nL cc own rm tys) {atype : ArrayType} {ty : FieldType} (harr : Cond.arrayClass ty ∈ tA) (hty : newarray.typeOf atype = ty) (t0 : Nat) {cA : ClassId} (ht : tys[t0]? = some (cA, ty)) {x : Nat × va_E} {w : va_W} {n : Int32} {N' : Nat} {a0 : vp_A} (ha : ∀ cA : ClassId, vp_cell cA a0 = arrV cA N' (fun _ => defaultValue ty)) (hn : ¬ n < 0) (hN : n.toNatClampNeg = N') (hbytes : N' * componentBytes ty ≤ 536870912) (hcells : kc + 1 ≤ rm.cells) (hslots : ns + N' ≤ rm.slots) (hd : decode cc pc = .ok (.newarray atype, 2)) (kk : ∀ q : Nat, WN K nL (kc + 1) (ns + N') (x :: (w ++ [(q, .inl (cA, a0))])) (pc + 2) lv (.ref q :: rest)) : WN K nL kc ns (x :: w) pc lv (.int n :: rest) := by
  obtain ⟨p, l, e, R, s, m, args, below, meth, c, Q, D, A⟩ := K
  have hR : R = rm := C.2.2.2.2.2.1
  subst hR
  have hK : va_K D vwCl tys s := C.2.2.2.2.2.2.1
  refine fun H locs ls hP hD hS hl => va_newa C.1 C.2.1 (by rw [hty]; exact C.2.2.2.2.1 _ harr) hty hK hP hD hS C.2.2.2.2.2.2.2.1 ha hn hN hbytes hcells hslots hd (fun q cA' H1 hK1 hP1 hD1 hS1 => ?_)
  have h1 := (hK.2 t0 _ ht).2
  have h2 := (hK1.2 tys.length (cA', ty) (by rw [List.getElem?_append_right (Nat.le_refl _), Nat.sub_self]; rfl)).2
  have e := RA_inj h1 h2
  subst e
  exact kk q H1 locs ls hP1 hD1 hS1 hl
theorem n_new (C : NC K nL cc own rm tys) {Cn : String} {T : u_T} {N ci index : Nat} (hin : ∀ w ∈ u_ws Cn T N, w ∈ tA) (ty0 : Nat → FieldType) (hty : ∀ k, k < N → parseFieldDescriptor (T k).2.2.1 = some (ty0 k)) (hcl : Cond.classLink own index Cn ∈ tA) (hib : Cond.instantiable Cn N ∈ tA) (hini : Cond.initialized Cn ∈ tA) (hc : vwCl[ci]? = some (Cn, T, N)) {fs : List Value} (hfs : ∀ j, j < N → defaultValue (ty0 j) = vp_V fs j) (hcells : kc + 1 ≤ rm.cells) (hslots : ns + N ≤ rm.slots) (hd : decode cc pc = .ok (.new index, 3)) (kk : ∀ q : Nat, WN K nL (kc + 1) (ns + N) (ws ++ [(q, .inr (ci, fs))]) (pc + 3) lv (.ref q :: rest)) : WN K nL kc ns ws pc lv rest := by
  obtain ⟨p, l, e, R, s, m, args, below, meth, c, Q, D, A⟩ := K
  have hR : R = rm := C.2.2.2.2.2.1
  subst hR
  exact fun H locs ls hP hD hS hl => va_new C.1 C.2.1 C.2.2.2.2.1 hin ty0 hty C.2.2.2.1 (C.2.2.2.2.1 _ hcl) (C.2.2.2.2.1 _ hib) (C.2.2.2.2.1 _ hini) C.2.2.2.2.2.2.1 hP hD hS C.2.2.2.2.2.2.2.1 hc hfs hcells hslots hd (fun q H1 hP1 hD1 hS1 => kk q H1 locs ls hP1 hD1 hS1 hl)
theorem n_putF (C : NC K nL cc own rm tys) (hI : NI K) {ref Cn : String} {T : u_T} {N ci index h0 k : Nat} {fs : List Value} {w : va_W} {v : Value} (hc : vwCl[ci]? = some (Cn, T, N)) (hk : k < N) (hin : ∀ w ∈ u_ws Cn T N, w ∈ tA) (ty0 : Nat → FieldType) (hty : ∀ k, k < N → parseFieldDescriptor (T k).2.2.1 = some (ty0 k)) (hnm : ∀ a, a < N → ∀ b, b < N → a ≠ b → (T a).2.1 ≠ (T b).2.1) (hlink : Cond.fieldLink own index ref (T k).2.1 (T k).2.2.1 ∈ tA) (href : (T k).1 = ref) (hfin : (T k).2.2.2 = true) (hdecl : (T k).1 = own) (hn : narrow (ty0 k) v = v) (hfit : fits (ty0 k) v = true) (hl : k < fs.length) (hd : decode cc pc = .ok (.putfield index, 3)) (kk : WN K nL kc ns ((h0, .inr (ci, fs.set k v)) :: w) (pc + 3) lv rest) : WN K nL kc ns ((h0, .inr (ci, fs)) :: w) pc lv (v :: .ref h0 :: rest) := by
  obtain ⟨p, l, e, R, s, m, args, below, meth, c, Q, D, A⟩ := K
  exact fun H locs ls hP hD hS hll => va_putF C.1 C.2.1 C.2.2.2.2.1 hin ty0 hty hnm C.2.2.2.1 C.2.2.2.2.2.2.1 hP hD hS 0 rfl hc k hk (C.2.2.2.2.1 _ hlink) (fun x hx => by rw [← href]; exact hx) hfin hI hdecl (hty k hk) hn hfit hl hd (fun H1 locs1 hP1 hD1 hS1 => kk H1 locs1 ls hP1 hD1 hS1 hll)
theorem n_put (C : NC K nL cc own rm tys) {ref Cn : String} {T : u_T} {N ci index h0 k : Nat} {fs : List Value} {w : va_W} {v : Value} (hc : vwCl[ci]? = some (Cn, T, N)) (hk : k < N) (hin : ∀ w ∈ u_ws Cn T N, w ∈ tA) (ty0 : Nat → FieldType) (hty : ∀ k, k < N → parseFieldDescriptor (T k).2.2.1 = some (ty0 k)) (hnm : ∀ a, a < N → ∀ b, b < N → a ≠ b → (T a).2.1 ≠ (T b).2.1) (hlink : Cond.fieldLink own index ref (T k).2.1 (T k).2.2.1 ∈ tA) (href : (T k).1 = ref) (hfin : (T k).2.2.2 = false) (hn : narrow (ty0 k) v = v) (hfit : fits (ty0 k) v = true) (hl : k < fs.length) (hd : decode cc pc = .ok (.putfield index, 3)) (kk : WN K nL kc ns ((h0, .inr (ci, fs.set k v)) :: w) (pc + 3) lv rest) : WN K nL kc ns ((h0, .inr (ci, fs)) :: w) pc lv (v :: .ref h0 :: rest) := by
  obtain ⟨p, l, e, R, s, m, args, below, meth, c, Q, D, A⟩ := K
  exact fun H locs ls hP hD hS hll => va_put C.1 C.2.1 C.2.2.2.2.1 hin ty0 hty hnm C.2.2.2.1 C.2.2.2.2.2.2.1 hP hD hS 0 rfl hc k hk (C.2.2.2.2.1 _ hlink) (fun x hx => by rw [← href]; exact hx) hfin (hty k hk) hn hfit hl hd (fun H1 locs1 hP1 hD1 hS1 => kk H1 locs1 ls hP1 hD1 hS1 hll)
theorem n_get (C : NC K nL cc own rm tys) {ref Cn : String} {T : u_T} {N ci index h0 k : Nat} {fs : List Value} {w : va_W} {v : Value} (hc : vwCl[ci]? = some (Cn, T, N)) (hk : k < N) (hin : ∀ w ∈ u_ws Cn T N, w ∈ tA) (hlink : Cond.fieldLink own index ref (T k).2.1 (T k).2.2.1 ∈ tA) (href : (T k).1 = ref) (hv : fs[k]? = some v) (hd : decode cc pc = .ok (.getfield index, 3)) (kk : WN K nL kc ns ((h0, .inr (ci, fs)) :: w) (pc + 3) lv (v :: rest)) : WN K nL kc ns ((h0, .inr (ci, fs)) :: w) pc lv (.ref h0 :: rest) := by
  obtain ⟨p, l, e, R, s, m, args, below, meth, c, Q, D, A⟩ := K
  exact fun H locs ls hP hD hS hl => va_get C.1 C.2.1 C.2.2.2.2.1 hin C.2.2.2.1 C.2.2.2.2.2.2.1 hP 0 rfl hc k hk (C.2.2.2.2.1 _ hlink) (fun x hx => by rw [← href]; exact hx) hv hd (kk H locs ls hP hD hS hl)
theorem n_iast (C : NC K nL cc own rm tys) {wf : St → va_W} {X : St} {q0 b n a : Nat} {cA : ClassId} (h : isRow wf q0 b cA n a) (t0 : Nat) (ht : tys[t0]? = some (cA, .int)) {i v : Int32} (hd : decode cc pc = .ok (.iastore, 1)) (hin : vp_in i n) (kk : WN K nL kc ns (wf (ux X a (ix i) v)) (pc + 1) lv rest) : WN K nL kc ns (wf X) pc lv (.int v :: .int i :: .ref b :: rest) := by
  obtain ⟨p, l, e, R, s, m, args, below, meth, c, Q, D, A⟩ := K
  exact fun H locs ls hP hD hS hl => va_iast C.1 C.2.1 C.2.2.2.2.2.2.1 hP hD hS q0 t0 (h X).1 ht hin hd (fun H1 locs1 hP1 hD1 hS1 => kk H1 locs1 ls (by rw [← (h X).2]; exact hP1) (by rw [← (h X).2]; exact hD1) hS1 hl)
theorem n_getR (C : NC K nL cc own rm tys) {wf : St → va_W} {X : St} {ref Cn : String} {T : u_T} {N ci index q0 b k b2 : Nat} (h : isRef wf q0 b ci k b2) (hc : vwCl[ci]? = some (Cn, T, N)) (hk : k < N) (hin : ∀ w ∈ u_ws Cn T N, w ∈ tA) (hlink : Cond.fieldLink own index ref (T k).2.1 (T k).2.2.1 ∈ tA) (href : (T k).1 = ref) (hd : decode cc pc = .ok (.getfield index, 3)) (kk : WN K nL kc ns (wf X) (pc + 3) lv (.ref b2 :: rest)) : WN K nL kc ns (wf X) pc lv (.ref b :: rest) := by
  obtain ⟨p, l, e, R, s, m, args, below, meth, c, Q, D, A⟩ := K
  obtain ⟨fs, h1, h2⟩ := h X
  exact fun H locs ls hP hD hS hl => va_get C.1 C.2.1 C.2.2.2.2.1 hin C.2.2.2.1 C.2.2.2.2.2.2.1 hP q0 h1 hc k hk (C.2.2.2.2.1 _ hlink) (fun x hx => by rw [← href]; exact hx) h2 hd (kk H locs ls hP hD hS hl)
theorem n_fr {A : Nat → Prop} {s : State} {H : Heap} {locs : List Loc} {wc wr : va_W} (hA : ∀ q, s.heap.size ≤ q → A q) (hD : va_D A (wc ++ wr)) (hS : va_S A s.heap H locs) : ∀ q, va_A wc H.size q → A q := fun q h => by
  rcases h with ⟨k, e, h⟩ | h
  · exact (w_dfst hD).2 k _ h
  · exact hA q (Nat.le_trans hS.1 h)
theorem lw_gc {y : MethodName} {cy : ByteArray} {ny : Nat} {ret : Option FieldType} (hco : Cond.code y cy ny ret ∈ tA) : GoodIn tA (Cond.code y cy ny ret :: tA) := lw_gi (by
    intro w hw
    rcases List.mem_cons.mp hw with rfl | h <;> assumption)
def rN (d mc ms : Nat) : Room := { frames := d, cells := mc, slots := ms, locals := 40 * d }
def PcN (h0 : Nat) (w0 : va_W) (D : va_G) (tys : List (ClassId × FieldType)) (sz : Nat) : Array Value → State → Prop := va_Pc [.ref h0] (fun U => U.heap.size = sz ∧ va_P D vwCl w0 U.heap ∧ va_K D vwCl tys U ∧ va_D (fun _ => True) w0 ∧ Nx U)
/-- a constructor's contract: the object's own cell h0, behind it the world wo of the addresses g -/
def Cn (l : Launch) (y : MethodName) (cc : ByteArray) (nL d mc ms : Nat) (D : va_G) (tys : List (ClassId × FieldType)) (h0 : Nat) (w0 : va_W) (wo : (Nat → Nat) → va_W) : Prop := ∀ sz : Nat, Met l y (.code y cc nL none :: tA) (rN d mc ms) (PcN h0 w0 D tys sz) (va_Qv (fun g : Nat → Nat => g 0 = h0) (fun g t => va_P D vwCl (wo g) t.heap ∧ va_D (va_A w0 sz) (wo g)) (va_A w0 sz)) mc ms (va_A w0 sz)
theorem PcN_blind {h0 : Nat} {w0 : va_W} {D : va_G} {tys : List (ClassId × FieldType)} {sz : Nat} : FrameBlind (PcN h0 w0 D tys sz) := fun a U g mk q => by
  obtain ⟨q0, q1, qP, qK, qD, qN⟩ := q
  exact ⟨q0, q1, qP, va_K.moved (u := U) (U := U.calling g mk a) (Vm.Alike.refl U.vm) qK, qD, Nx_same (u := U) rfl qN⟩
theorem n_callI (C : NC K nL cc own rm tys) {y : MethodName} {cy : ByteArray} {ny d2 mc ms index q : Nat} {e0 : va_E} {wo : (Nat → Nat) → va_W} (hM : ∀ l D, Cn l y cy ny d2 mc ms D tys q [(q, e0)] wo) (hlink : Cond.methodLink own index y ∈ tA) (hco : Cond.code y cy ny none ∈ tA) (him : Cond.instanceMethod y ∈ tA) (hin : Cond.initialized y.cls ∈ tA) (hy1 : y.name = "<init>") (hy : y.cls ≠ "java/lang/invoke/MethodHandle" ∧ y.cls ≠ "java/lang/invoke/VarHandle" ∧ (parseMethodDescriptor y.desc).map (fun d => d.parameters.length) = some 0) (hdd : d2 + 1 ≤ rm.frames) (hlo : 8 + (ny + 11) + 40 * d2 ≤ rm.locals) (hr : (rest.map fun v => v.category).sum ≤ 8) (hcs : kc + mc ≤ rm.cells ∧ ns + ms ≤ rm.slots) (hd : decode cc pc = .ok (.invokespecial index, 3)) (kk : ∀ g : Nat → Nat, g 0 = q → WN K nL (kc + mc) (ns + ms) (ws ++ wo g) (pc + 3) lv rest) : WN K nL kc ns (ws ++ [(q, e0)]) pc lv (.ref q :: rest) := by
  obtain ⟨p, l, e, R, s, m, args, below, meth, c, Q, D, A⟩ := K
  have hR : R = rm := C.2.2.2.2.2.1
  subst hR
  intro H locs ls hP hD hS hl
  have hP := w_swap hP
  have hD := w_dswap hD
  have hF := n_fr C.2.2.2.2.2.2.2.1 hD hS
  refine va_callv (va_runI (As := []) (rest := rest) ⟨C.1, C.2.1, C.2.2.1, C.2.2.2.1, C.2.2.2.2.1⟩ (hM l D H.size) (cwI 0 C.2.2.2.2.1 (lw_gc hco) rfl rfl rfl (C.2.2.2.2.1 _ hin) (C.2.2.2.2.1 _ hlink) (C.2.2.2.2.1 _ him) hy1 hy ⟨hdd, hlo⟩) ⟨PcN_blind, fun U hU hW => ⟨rfl, by rw [hU], by rw [hU]; exact w_fst hP, va_K.moved hW.alike C.2.2.2.2.2.2.1, (w_dfst hD).weaken (fun _ _ _ _ => trivial), Nx_warm hW C.2.2.2.2.2.2.2.2⟩⟩ rfl rfl hl.1 rfl (lv_room hr) hd hcs) hS (fun q _ h => hF q h) hF (fun g t H1 locs1 ht hvm hg hB hz1 hk1 hS1 => ?_)
  rw [ht] at hB
  obtain ⟨j1, j2⟩ := w_join hP hD hk1 hF hB.1 hB.2
  exact kk g hg H1 locs1 ls (w_swap j1) (w_dswap j2) hS1 hl
theorem n_callIN (C : NC K nL cc own rm tys) {y : MethodName} {host : String} {cy : ByteArray} {ny d2 mc ms index q : Nat} {e0 : va_E} {wo : (Nat → Nat) → va_W} (hM : ∀ l D, Cn l y cy ny d2 mc ms D tys q [(q, e0)] wo) (hlink : Cond.methodLinkNest own index y host ∈ NXl) (hco : Cond.code y cy ny none ∈ tA) (him : Cond.instanceMethod y ∈ tA) (hin : Cond.initialized y.cls ∈ tA) (hy1 : y.name = "<init>") (hy : y.cls ≠ "java/lang/invoke/MethodHandle" ∧ y.cls ≠ "java/lang/invoke/VarHandle" ∧ (parseMethodDescriptor y.desc).map (fun d => d.parameters.length) = some 0) (hdd : d2 + 1 ≤ rm.frames) (hlo : 8 + (ny + 11) + 40 * d2 ≤ rm.locals) (hr : (rest.map fun v => v.category).sum ≤ 8) (hcs : kc + mc ≤ rm.cells ∧ ns + ms ≤ rm.slots) (hd : decode cc pc = .ok (.invokespecial index, 3)) (kk : ∀ g : Nat → Nat, g 0 = q → WN K nL (kc + mc) (ns + ms) (ws ++ wo g) (pc + 3) lv rest) : WN K nL kc ns (ws ++ [(q, e0)]) pc lv (.ref q :: rest) := by
  obtain ⟨p, l, e, R, s, m, args, below, meth, c, Q, D, A⟩ := K
  have hR : R = rm := C.2.2.2.2.2.1
  subst hR
  intro H locs ls hP hD hS hl
  have hP := w_swap hP
  have hD := w_dswap hD
  have hF := n_fr C.2.2.2.2.2.2.2.1 hD hS
  refine va_callv (va_runIN (As := []) (rest := rest) ⟨C.1, C.2.1, C.2.2.1, C.2.2.2.1, C.2.2.2.2.1⟩ (hM l D H.size) ⟨va_cnB 0 C.2.2.2.2.1 (lw_gc hco) rfl rfl rfl (C.2.2.2.2.2.2.2.2.1 _ hlink) (C.2.2.2.2.1 _ hin) hy ⟨hdd, hlo⟩, hy1, C.2.2.2.2.1 _ him⟩ ⟨PcN_blind, fun U hU hW => ⟨rfl, by rw [hU], by rw [hU]; exact w_fst hP, va_K.moved hW.alike C.2.2.2.2.2.2.1, (w_dfst hD).weaken (fun _ _ _ _ => trivial), Nx_warm hW C.2.2.2.2.2.2.2.2⟩⟩ rfl rfl hl.1 rfl (lv_room hr) hd hcs) hS (fun q _ h => hF q h) hF (fun g t H1 locs1 ht hvm hg hB hz1 hk1 hS1 => ?_)
  rw [ht] at hB
  obtain ⟨j1, j2⟩ := w_join hP hD hk1 hF hB.1 hB.2
  exact kk g hg H1 locs1 ls (w_swap j1) (w_dswap j2) hS1 hl
/-- a call of a void method that makes nothing, on a part of the world -/
theorem n_callSv (C : NC K nL cc own rm tys) {wf : St → va_W} (hwf : wfA wf) {wr : va_W} {X : St} {y : MethodName} {cy : ByteArray} {ny d2 index : Nat} {ret : Option FieldType} {post : St → Prop} (As : List Value) (hM : ∀ l D, Cv l y cy ny ret d2 wf D tys As X post) (hlink : Cond.methodLink own index y ∈ tA) (hco : Cond.code y cy ny ret ∈ tA) (hst : Cond.static y ∈ tA) (hin : Cond.initialized y.cls ∈ tA) (hy : y.cls ≠ "java/lang/invoke/MethodHandle" ∧ y.cls ≠ "java/lang/invoke/VarHandle" ∧ (parseMethodDescriptor y.desc).map (fun d => d.parameters.length) = some As.length) (hdd : d2 + 1 ≤ rm.frames) (hlo : 8 + (ny + 11) + 40 * d2 ≤ rm.locals) (hr : (rest.map fun v => v.category).sum ≤ 8) (hcs : kc ≤ rm.cells ∧ ns ≤ rm.slots) (hd : decode cc pc = .ok (.invokestatic index, 3)) {st : List Value} (hst0 : st = As.reverse ++ rest) (kk : ∀ X1 : St, post X1 → WN K nL kc ns (wf X1 ++ wr) (pc + 3) lv rest) : WN K nL kc ns (wf X ++ wr) pc lv st := by
  subst hst0
  obtain ⟨p, l, e, R, s, m, args, below, meth, c, Q, D, A⟩ := K
  have hR : R = rm := C.2.2.2.2.2.1
  subst hR
  have hG := lw_gi (ws := va_wsS own index y (Cond.code y cy ny ret :: tA)) (by
    intro w hw
    rcases List.mem_append.mp hw with h | h
    · simp only [List.mem_cons, List.not_mem_nil, or_false] at h
      rcases h with rfl | rfl | rfl <;> assumption
    · rcases List.mem_cons.mp h with rfl | h <;> assumption)
  intro H locs ls hP hD hS hl
  have hF := n_fr C.2.2.2.2.2.2.2.1 hD hS
  refine va_callv (va_runS (As := As) (rest := rest) ⟨C.1, C.2.1, C.2.2.1, C.2.2.2.1, C.2.2.2.2.1⟩ (hM l D H.size) (va_cwS As.length C.2.2.2.2.1 (hG) rfl rfl rfl hy ⟨hdd, hlo⟩) ⟨PcX_blind, fun U hU hW => ⟨rfl, by rw [hU], by rw [hU]; exact w_fst hP, va_K.moved hW.alike C.2.2.2.2.2.2.1, (w_dfst hD).weaken (fun _ _ _ _ => trivial)⟩⟩ rfl rfl hl.1 rfl (lv_room hr) hd hcs) hS (fun q _ h => hF q h) hF (fun u t H1 locs1 ht hvm hw hB hz1 hk1 hS1 => ?_)
  rw [ht] at hB
  obtain ⟨j1, j2⟩ := w_join hP hD hk1 hF hB (va_D.adr (hwf X u) (w_dfst hD).self)
  exact kk u hw H1 locs1 ls j1 j2 hS1 hl
end NR
/-- a constructor's entry and end -/
theorem m_n {l : Launch} {y : MethodName} {cc : ByteArray} {nL d mc ms : Nat} {D : va_G} {tys : List (ClassId × FieldType)} {h0 : Nat} {w0 : va_W} {wo : (Nat → Nat) → va_W} (own : String) (hown : y.cls = own) (hy1 : y.name = "<init>") (hpn : plainName y.cls = true) (hnl : 1 ≤ nL)
    (body : ∀ K : Cx, NC K nL cc own (rN d mc ms) tys → NI K → (∀ (g : Nat → Nat) (kc ns : Nat) (ws : va_W) (pc : Nat) (lv1 : List (Nat × Value)) (is : List Nat), decode cc pc = .ok (.return_, 1) → g 0 = h0 → kc ≤ mc → ns ≤ ms → va_nd is = true → is.map (fun i => ws[i]?) = (wo g).map some → WN K nL kc ns ws pc lv1 []) → WN K nL 0 0 w0 0 [(0, .ref h0)] []) : Cn l y cc nL d mc ms D tys h0 w0 wo := by
  intro sz
  refine Met.ofW (cc := cc) (maxL := nL) (ret := none) hpn rfl ?_
  intro p e s m args below meth c s₁ B hml hv
  obtain ⟨rfl, hsz, hP, hK, hD0, hN⟩ := hv
  have hts := atoms_spec (ws := .code y cc nL none :: tA) B.pre
  have hfc : s.vm.findClass own = some m.cls := by rw [← hown]; exact findClass_of_methodNamed B.named
  have hin : meth.name = "<init>" := (name_of_methodNamed B.named B.method).1.trans hy1
  have hlocks := B.notSynchronized
  have hr := B.returns
  subst hsz
  have hl := lv_entry [Value.ref h0] (n := nL) hnl
  rw [lg_entry_eq]
  have hC : NC (p, l, e, (headSpec (.code y cc nL none :: tA) (rN d mc ms)).room, s, m, ([Value.ref h0] : List Value).toArray, below, meth, c, MQ below (va_Qv (fun g : Nat → Nat => g 0 = h0) (fun g t => va_P D vwCl (wo g) t.heap ∧ va_D (va_A w0 s.heap.size) (wo g)) (va_A w0 s.heap.size)) ([Value.ref h0] : List Value).toArray s mc ms (va_A w0 s.heap.size), D, va_A w0 s.heap.size) nL cc own (rN d mc ms) tys := ⟨B.exec, B.bytes, hml, hfc, fun w hw => hts w (List.mem_cons_of_mem _ hw), rfl, hK, fun q h => Or.inr h, hN⟩
  exact body _ hC hin (fun g kc ns ws pc lv1 is hd hg h1 h2 hnd hs H locs ls hP hD hS hl => W.widen h1 h2 (W.vret B.exec B.bytes hr (fun t ht hW => ⟨⟨g, rfl, hg, by rw [ht]; exact hP.sub is (fm_sub hs), hD.sub is hnd hs⟩, hS.F ht⟩) hS.2.2 hd)) s.heap [] _ hP hD0.self va_S.rf hl
