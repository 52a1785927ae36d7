theorem n_callVi {K : Cx} {nL kc ns : Nat} {cc : ByteArray} {own : String} {rm : Room} {tys : List (ClassId × FieldType)} {pc : Nat} {lv : List (Nat × Value)} {rest : List Value} (C : NC K nL cc own rm tys) {wf : St → va_W} (hwf : wfA wf) {wr : va_W} {X : St} {y : MethodName} {cy : ByteArray} {ny d2 index : Nat} {ret : Option FieldType} {post : Int32 → St → Prop} {q0 ci b : Nat} {fs : List Value} {qc : vw_C} (As : List Value) (hM : ∀ l D, Ci l y cy ny ret d2 wf D tys (.ref b :: As) X post) (hrc : (wf X)[q0]? = some (b, .inr (ci, fs))) (hc : vwCl[ci]? = some qc) (hlink : Cond.methodLink own index y ∈ tA) (hco : Cond.code y cy ny ret ∈ tA) (him : Cond.instanceMethod y ∈ tA) (hse : Cond.selects qc.1 y y ∈ tA) (hin : Cond.initialized qc.1 ∈ tA) (hy : y.cls = qc.1 ∧ y.cls ≠ "java/lang/invoke/MethodHandle" ∧ y.cls ≠ "java/lang/invoke/VarHandle" ∧ (parseMethodDescriptor y.desc).map (fun d => d.parameters.length) = some As.length) (hdd : d2 + 1 ≤ rm.frames) (hlo : 8 + (ny + 11) + 40 * d2 ≤ rm.locals) (hr : (rest.map fun v => v.category).sum ≤ 8) (hcs : kc ≤ rm.cells ∧ ns ≤ rm.slots) (hd : decode cc pc = .ok (.invokevirtual index, 3)) {st : List Value} (hst0 : st = As.reverse ++ .ref b :: rest) (kk : ∀ (r : Int32) (X1 : St), post r X1 → WN K nL kc ns (wf X1 ++ wr) (pc + 3) lv (.int r :: rest)) : WN K nL kc ns (wf X ++ wr) pc lv st := by
  subst hst0
  obtain ⟨p, l, e, R, s, m, args, below, meth, c, Q, D, A⟩ := K
  have hR : R = rm := C.2.2.2.2.2.1
  subst hR
  have hG := lw_gi (ws := wsV own index qc.1 y (Cond.code y cy ny ret :: tA)) (by
    intro w hw
    rcases List.mem_append.mp hw with h | h
    · simp only [List.mem_cons, List.not_mem_nil, or_false] at h
      rcases h with rfl | rfl | rfl | rfl <;> assumption
    · rcases List.mem_cons.mp h with rfl | h <;> assumption)
  intro H locs ls hP hD hS hl
  have hF := n_fr C.2.2.2.2.2.2.2.1 hD hS
  refine va_calli (va_runV (As := As) (rest := rest) ⟨C.1, C.2.1, C.2.2.1, C.2.2.2.1, C.2.2.2.2.1⟩ (hM l D H.size) (cwV As.length C.2.2.2.2.1 (hG) rfl rfl rfl hy ⟨hdd, hlo⟩) ⟨PcX_blind, va_recv C.2.2.2.2.2.2.1 (w_fst hP) hc hrc, fun U hU hW => ⟨rfl, by rw [hU], by rw [hU]; exact w_fst hP, va_K.moved hW.alike C.2.2.2.2.2.2.1, (w_dfst hD).weaken (fun _ _ _ _ => trivial)⟩⟩ rfl rfl hl.1 rfl (lv_room hr) hd hcs) hS (fun q _ h => hF q h) hF (fun r u t H1 locs1 ht hvm hw hB hz1 hk1 hS1 => ?_)
  rw [ht] at hB
  obtain ⟨j1, j2⟩ := w_join hP hD hk1 hF hB (va_D.adr (hwf X u) (w_dfst hD).self)
  exact kk r u hw H1 locs1 ls j1 j2 hS1 hl
theorem n_callVl {K : Cx} {nL kc ns : Nat} {cc : ByteArray} {own : String} {rm : Room} {tys : List (ClassId × FieldType)} {pc : Nat} {lv : List (Nat × Value)} {rest : List Value} (C : NC K nL cc own rm tys) {wf : St → va_W} (hwf : wfA wf) {wr : va_W} {X : St} {y : MethodName} {cy : ByteArray} {ny d2 index : Nat} {ret : Option FieldType} {post : Int64 → St → Prop} {q0 ci b : Nat} {fs : List Value} {qc : vw_C} (As : List Value) (hM : ∀ l D, Cl l y cy ny ret d2 wf D tys (.ref b :: As) X post) (hrc : (wf X)[q0]? = some (b, .inr (ci, fs))) (hc : vwCl[ci]? = some qc) (hlink : Cond.methodLink own index y ∈ tA) (hco : Cond.code y cy ny ret ∈ tA) (him : Cond.instanceMethod y ∈ tA) (hse : Cond.selects qc.1 y y ∈ tA) (hin : Cond.initialized qc.1 ∈ tA) (hy : y.cls = qc.1 ∧ y.cls ≠ "java/lang/invoke/MethodHandle" ∧ y.cls ≠ "java/lang/invoke/VarHandle" ∧ (parseMethodDescriptor y.desc).map (fun d => d.parameters.length) = some As.length) (hdd : d2 + 1 ≤ rm.frames) (hlo : 8 + (ny + 11) + 40 * d2 ≤ rm.locals) (hr : (rest.map fun v => v.category).sum ≤ 8) (hcs : kc ≤ rm.cells ∧ ns ≤ rm.slots) (hd : decode cc pc = .ok (.invokevirtual index, 3)) {st : List Value} (hst0 : st = As.reverse ++ .ref b :: rest) (kk : ∀ (r : Int64) (X1 : St), post r X1 → WN K nL kc ns (wf X1 ++ wr) (pc + 3) lv (.long r :: rest)) : WN K nL kc ns (wf X ++ wr) pc lv st := by
  subst hst0
  obtain ⟨p, l, e, R, s, m, args, below, meth, c, Q, D, A⟩ := K
  have hR : R = rm := C.2.2.2.2.2.1
  subst hR
  have hG := lw_gi (ws := wsV own index qc.1 y (Cond.code y cy ny ret :: tA)) (by
    intro w hw
    rcases List.mem_append.mp hw with h | h
    · simp only [List.mem_cons, List.not_mem_nil, or_false] at h
      rcases h with rfl | rfl | rfl | rfl <;> assumption
    · rcases List.mem_cons.mp h with rfl | h <;> assumption)
  intro H locs ls hP hD hS hl
  have hF := n_fr C.2.2.2.2.2.2.2.1 hD hS
  refine va_calll (va_runV (As := As) (rest := rest) ⟨C.1, C.2.1, C.2.2.1, C.2.2.2.1, C.2.2.2.2.1⟩ (hM l D H.size) (cwV As.length C.2.2.2.2.1 (hG) rfl rfl rfl hy ⟨hdd, hlo⟩) ⟨PcX_blind, va_recv C.2.2.2.2.2.2.1 (w_fst hP) hc hrc, fun U hU hW => ⟨rfl, by rw [hU], by rw [hU]; exact w_fst hP, va_K.moved hW.alike C.2.2.2.2.2.2.1, (w_dfst hD).weaken (fun _ _ _ _ => trivial)⟩⟩ rfl rfl hl.1 rfl (lv_room hr) hd hcs) hS (fun q _ h => hF q h) hF (fun r u t H1 locs1 ht hvm hw hB hz1 hk1 hS1 => ?_)
  rw [ht] at hB
  obtain ⟨j1, j2⟩ := w_join hP hD hk1 hF hB (va_D.adr (hwf X u) (w_dfst hD).self)
  exact kk r u hw H1 locs1 ls j1 j2 hS1 hl
/-- the script: outside of the world, unchanged -/
def SC (K : Cx) (b L : Nat) (xs : Nat → Int32) : Prop := match K with
  | (p, l, e, R, s, m, args, below, meth, c, Q, D, A) => va_X b L xs s s.heap ∧ b < s.heap.size ∧ ¬ A b
section LR
variable {K : Cx} {nL kc ns : Nat} {ws : va_W} {cc : ByteArray} {own : String} {rm : Room} {tys : List (ClassId × FieldType)} {pc : Nat} {lv : List (Nat × Value)} {rest : List Value} {b L : Nat} {xs : Nat → Int32}
theorem n_sld (C : NC K nL cc own rm tys) (S : SC K b L xs) {i : Int32} (hin : vp_in i L) (hd : decode cc pc = .ok (.iaload, 1)) (kk : WN K nL kc ns ws (pc + 1) lv (.int (xs (ix i)) :: rest)) : WN K nL kc ns ws pc lv (.int i :: .ref b :: rest) := by
  obtain ⟨p, l, e, R, s, m, args, below, meth, c, Q, D, A⟩ := K
  exact fun H locs ls hP hD hS hl => va_sld C.1 C.2.1 S.1 S.2.1 S.2.2 hS hin hd (kk H locs ls hP hD hS hl)
theorem n_slen (C : NC K nL cc own rm tys) (S : SC K b L xs) (hd : decode cc pc = .ok (.arraylength, 1)) (kk : WN K nL kc ns ws (pc + 1) lv (.int (nI L) :: rest)) : WN K nL kc ns ws pc lv (.ref b :: rest) := by
  obtain ⟨p, l, e, R, s, m, args, below, meth, c, Q, D, A⟩ := K
  exact fun H locs ls hP hD hS hl => va_slen C.1 C.2.1 S.1 S.2.1 S.2.2 hS hd (kk H locs ls hP hD hS hl)
theorem n_arg (C : NC K 4 cc own rm tys) (S : SC K b L xs) {x1 x2 i j : Nat} {jj : Int} (hj : Int32.ofInt jj = nI j) (hij : i + j < L) (hL : L ≤ 3072) (d1 : decode cc pc = .ok (.aload_n 0, 1)) (d2 : decode cc (pc + 1) = .ok (.iload_n 3, 1)) (d3 : decode cc (pc + 2) = .ok (.iconst jj, 1)) (d4 : decode cc (pc + 3) = .ok (.iadd, 1)) (d5 : decode cc (pc + 4) = .ok (.iaload, 1)) (kk : WN K 4 kc ns ws (pc + 5) [(0, .ref b), (1, .ref x1), (2, .ref x2), (3, .int (nI i))] (.int (xs (i + j)) :: rest)) : WN K 4 kc ns ws pc [(0, .ref b), (1, .ref x1), (2, .ref x2), (3, .int (nI i))] rest := by
  refine n_aload_n C (pc := pc) d1 0 rfl rfl ?_
  refine n_iload_n C (pc := pc + 1) d2 3 rfl rfl ?_
  refine n_iconst C (pc := pc + 2) d3 hj ?_
  refine n_iadd C (pc := pc + 3) d4 ?_
  refine n_top (nI_add i j) ?_
  refine n_sld C S (pc := pc + 4) (nI_in hij (by omega)) d5 ?_
  rw [show ix (nI (i + j)) = i + j from nI_clamp (by omega)]
  exact kk
theorem n_arg0 (C : NC K 4 cc own rm tys) (S : SC K b L xs) {x1 x2 i : Nat} (hij : i < L) (hL : L ≤ 3072) (d1 : decode cc pc = .ok (.aload_n 0, 1)) (d2 : decode cc (pc + 1) = .ok (.iload_n 3, 1)) (d5 : decode cc (pc + 2) = .ok (.iaload, 1)) (kk : WN K 4 kc ns ws (pc + 3) [(0, .ref b), (1, .ref x1), (2, .ref x2), (3, .int (nI i))] (.int (xs i) :: rest)) : WN K 4 kc ns ws pc [(0, .ref b), (1, .ref x1), (2, .ref x2), (3, .int (nI i))] rest := by
  refine n_aload_n C (pc := pc) d1 0 rfl rfl ?_
  refine n_iload_n C (pc := pc + 1) d2 3 rfl rfl ?_
  refine n_sld C S (pc := pc + 2) (nI_in hij (by omega)) d5 ?_
  rw [show ix (nI i) = i from nI_clamp (by omega)]
  exact kk
theorem n_bool (C : NC K nL cc own rm tys) {x : Int32} (d1 : decode cc pc = .ok (.ifCond .eq 7, 3)) (d2 : decode cc (pc + 3) = .ok (.iconst 1, 1)) (d3 : decode cc (pc + 4) = .ok (.goto 4, 3)) (d4 : decode cc (pc + 7) = .ok (.iconst 0, 1)) (kk : WN K nL kc ns ws (pc + 8) lv (.int (if x = 0 then 0 else 1) :: rest)) : WN K nL kc ns ws pc lv (.int x :: rest) := by
  refine n_if_eq C (pc := pc) (tgt := pc + 7) d1 (by omega) (fun h => ?_) (fun h => ?_)
  · rw [if_pos h] at kk
    exact n_iconst C (pc := pc + 7) (v := 0) d4 (by decide) kk
  · rw [if_neg h] at kk
    exact n_iconst C (pc := pc + 3) (v := 1) d2 (by decide) (n_goto C (pc := pc + 4) (tgt := pc + 8) d3 (by omega) kk)
end LR
theorem gt_L {L i : Nat} (hL : L ≤ 3072) (hi : i ≤ 3072) : nI L - 6 < nI i ↔ L < i + 6 := by
  by_cases h : 6 ≤ L
  · have e : nI L - 6 = nI (L - 6) := by
      have e1 : nI L = nI (L - 6) + 6 := by
        rw [show (6 : Int32) = nI 6 from rfl, nI_add]
        congr 1
        omega
      rw [e1]
      exact Int32.add_sub_cancel _ _
    rw [e]
    constructor
    · intro q
      rcases Nat.lt_or_ge L (i + 6) with z | z
      · exact z
      · exact absurd q (nI_nlt (by omega) (by omega))
    · intro q
      exact nI_lt (by omega) (by omega)
  · refine ⟨fun _ => by omega, fun _ => ?_⟩
    have h0 : (0 : Int32) ≤ nI i := nI_pos' (by omega)
    have hneg : nI L - 6 < 0 := by
      match L, h with
      | 0, _ => decide
      | 1, _ => decide
      | 2, _ => decide
      | 3, _ => decide
      | 4, _ => decide
      | 5, _ => decide
      | n + 6, h => exact absurd (by omega) h
    exact Int32.lt_of_lt_of_le hneg h0
