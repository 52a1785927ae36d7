theorem at_cg {D : va_G} {cl : List vw_C} {w0 w1 : va_W} {q N : Nat} {cA : ClassId} {f g : Nat → Option Nat} {H : Heap} (h : ∀ j, j < N → f j = g j) (hP : va_P D cl ((w0 ++ [(q, .inl (cA, N, .inr (.inr (.inr (.inr f)))))]) ++ w1) H) : va_P D cl ((w0 ++ [(q, .inl (cA, N, .inr (.inr (.inr (.inr g)))))]) ++ w1) H := by
  have h1 := w_snd (w_fst hP)
  refine ((w_fst (w_fst hP)).app (fun k x hx => ?_)).app (w_snd hP)
  have h0 : k < 1 := (List.getElem?_eq_some_iff.mp hx).1
  rw [show k = 0 by omega] at hx
  cases hx
  have h2 : H[q]? = some (vp_cell cA (N, .inr (.inr (.inr (.inr f))))) := h1 0 _ rfl
  show H[q]? = some (vp_cell cA (N, .inr (.inr (.inr (.inr g)))))
  rw [h2, vp_cell_q, vp_cell_q, arrV_cg (fun j hj => by rw [h j hj])]
theorem ad_cg {A : Nat → Prop} {w0 w1 : va_W} {q : Nat} {e e' : va_E} (hD : va_D A ((w0 ++ [(q, e)]) ++ w1)) : va_D A ((w0 ++ [(q, e')]) ++ w1) := va_D.adr (by simp) hD
theorem n_mna {K : Cx} {nL kc ns : Nat} {cc : ByteArray} {own : String} {rm : Room} {tys : List (ClassId × FieldType)} {pc : Nat} {lv : List (Nat × Value)} {rest : List Value} (C : NC K nL cc own rm tys) {index : Nat} {ty : FieldType} {cy cA : ClassId} (hclink : Cond.classLink own index ("[" ++ (FieldType.array ty).toString) ∈ tA) (hov : ∀ U, Nx U → va_AOA ty U) (harr : Cond.arrayClass ty ∈ tA) (t0 t1 : Nat) (ht : tys[t0]? = some (cy, ty)) (ht1 : tys[t1]? = some (cA, .array ty)) (hts : ∀ U c, va_RA U c ty → U.vm.findClass (FieldType.array ty).toString = some c) {x : Nat × va_E} {w : va_W} {n k : Int32} {N' K' : Nat} {z : vp_A} (hn : ¬ n < 0) (hk : ¬ k < 0) (hN : n.toNatClampNeg = N') (hM : k.toNatClampNeg = K') (hb1 : N' * 4 ≤ 536870912) (hb2 : K' * componentBytes ty ≤ 536870912) (hb3 : K' ≤ 536870912) (hdf : fits ty (defaultValue ty) = true) (hdd : (defaultValue ty).isDefault = true) (hcells : kc + (1 + N') ≤ rm.cells) (hslots : ns + (N' + N' * K') ≤ rm.slots) (hz : ∀ c : ClassId, Jvm.Free.Multi.innerC c K' (defaultValue ty) = vp_cell c z) (hd : decode cc pc = .ok (.multianewarray index 2, 4))
    (kk : ∀ (q : Nat) (r : Nat → Nat), WN K nL (kc + 1 + N') (ns + N' + N' * K') (x :: ((w ++ [(q, .inl (cA, N', .inr (.inr (.inr (.inr (fun i => some (r i)))))))]) ++ (List.range N').map (fun i => (r i, .inl (cy, z))))) (pc + 4) lv (.ref q :: rest)) : WN K nL kc ns (x :: w) pc lv (.int k :: .int n :: rest) := by
  obtain ⟨p, l, e, R, s, m, args, below, meth, c, Q, D, A⟩ := K
  have hR : R = rm := C.2.2.2.2.2.1
  subst hR
  have hK : va_K D vwCl tys s := C.2.2.2.2.2.2.1
  intro H locs ls hP hD hS hl
  have hP0 : va_P D vwCl ((x :: w) ++ va_pl [] (fun _ => x.2)) H := by rw [show va_pl [] (fun _ => x.2) = [] from rfl, List.append_nil]; exact hP
  have hD0 : va_D A ((x :: w) ++ va_pl [] (fun _ => x.2)) := by rw [show va_pl [] (fun _ => x.2) = [] from rfl, List.append_nil]; exact hD
  refine va_mna C.1 C.2.1 C.2.2.2.1 (C.2.2.2.2.1 _ hclink) (hov s C.2.2.2.2.2.2.2.2) (C.2.2.2.2.1 _ harr) (hts s cy (hK.2 t0 _ ht).2) hK hP0 hD0 hS C.2.2.2.2.2.2.2.1 hn hk hN hM hb1 hb2 hb3 hdf hdd hcells hslots hz hd (fun q r cA' H1 _ _ hK1 hP1 hD1 hS1 => ?_)
  have h2 := (hK1.2 tys.length (cA', .array ty) (by rw [List.getElem?_append_right (Nat.le_refl _), Nat.sub_self]; rfl)).2
  have ec := RA_inj (hK.2 t1 _ ht1).2 h2
  subst ec
  rw [vr_all, List.map_map] at hP1 hD1
  exact kk q r H1 locs ls (at_cg (fun j hj => if_pos hj) hP1) (ad_cg hD1) hS1 hl
