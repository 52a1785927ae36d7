theorem n_fill {K : Cx} {nL kc ns : Nat} {cc : ByteArray} {own : String} {rm : Room} {tys : List (ClassId × FieldType)} {pc : Nat} {lv : List (Nat × Value)} (C : NC K nL cc own rm tys) {index q n : Nat} {f : Nat → Int32} {v : Int32} {cA : ClassId} {wr : va_W} (hlink : Cond.methodLink own index yJ7_fill_53178 ∈ tA) (t0 : Nat) (ht : tys[t0]? = some (cA, .int)) (hn : n < 2 ^ 31) (hdd : 1 ≤ rm.frames) (hlo : 23 ≤ rm.locals) (hcs : kc ≤ rm.cells ∧ ns ≤ rm.slots) (hd : decode cc pc = .ok (.invokestatic index, 3)) (kk : WN K nL kc ns ([(q, .inl (cA, n, .inl (fun i => if i < n then v else f i)))] ++ wr) (pc + 3) lv []) : WN K nL kc ns ([(q, .inl (cA, n, .inl f))] ++ wr) pc lv [.int v, .ref q] := by
  have hr : isRow (fun X : St => [(q, .inl (cA, n, .inl (X 0)))]) 0 q cA n 0 := fun X => ⟨rfl, fun i v => by
    show [(q, Sum.inl (cA, n, Sum.inl (upd (X 0) i v)))] = [(q, Sum.inl (cA, n, Sum.inl (ux X 0 i v 0)))]
    rw [show ux X 0 i v 0 = upd (X 0) i v from sr_s _ _ _]⟩
  refine n_callSv C (wf := fun X : St => [(q, .inl (cA, n, .inl (X 0)))]) (fun _ _ => rfl) (X := fun _ => f) [.ref q, .int v] (fun l D => c_fillI l D (fun _ _ => rfl) hr t0 ht hn (fun _ => f) v) hlink co_J7_fill_53178 st_J7_fill_53178 in_J7 hy_J7_fill_53178 hdd hlo (by decide) hcs hd rfl (fun X1 e => ?_)
  subst e
  rw [sr_s]
  exact kk
def wX2 (G : Gx) (g : Nat → Nat) : va_W := [(g 0, .inr (2, [.ref (g 1), .int 0])), (g 1, .inl (G.2.1, 6, .inl (fun _ => 0)))]
set_option maxRecDepth 100000 in
theorem c_X2_init (l : Launch) (D : va_G) (G : Gx) (h0 : Nat) : Cn l yX2_init cX2_init 1 1 1 6 D (tyG G) h0 [(h0, .inr (2, [.null, .int 0]))] (wX2 G) := by
  refine m_n RX2 rfl rfl (by decide +kernel) (Nat.le_refl _) (fun K C hI ret => ?_)
  refine n_aload_n C (pc := 0) dX2_init_0 0 rfl rfl ?_
  refine n_obj C ml_X2_3 dX2_init_1 (Nat.le_of_ble_eq_true rfl) (Nat.le_of_ble_eq_true rfl) ?_
  refine n_aload_n C (pc := 4) dX2_init_4 0 rfl rfl ?_
  refine n_bipush C (pc := 5) (v := 6) dX2_init_5 (by decide) ?_
  refine n_newa C (ty := .int) ac_Jvm_ClassFile_FieldType_int rfl 0 rfl (N' := 6) (a0 := (6, .inl (fun _ => 0))) (fun _ => rfl) (by decide) (by decide) (by decide) (Nat.le_of_ble_eq_true rfl) (Nat.le_of_ble_eq_true rfl) dX2_init_7 (fun q7 => ?_)
  refine n_putF C hI (Cn := RX2) (T := TX2) (N := 2) (ci := 2) (k := 0) rfl (by decide) inX2 tyX2 tyX2_ok nmX2 fl_X2_9 rfl rfl rfl rfl rfl (Nat.le_of_ble_eq_true rfl) dX2_init_9 ?_
  exact ret (fun n => [h0, q7].getD n 0) _ _ _ 12 _ [0, 1] dX2_init_12 rfl (Nat.le_of_ble_eq_true rfl) (Nat.le_of_ble_eq_true rfl) (by decide) rfl
def wX3 (G : Gx) (g : Nat → Nat) : va_W := [(g 0, .inr (3, [.ref (g 1), .ref (g 2), .ref (g 3), .ref (g 4), .ref (g 5), .ref (g 6), .ref (g 7), .ref (g 8), .ref (g 9), .ref (g 10), .ref (g 11), .int 0, .int 0])), (g 1, .inl (G.2.1, 16, .inl (fun _ => 0))), (g 2, .inl (G.2.1, 16, .inl (fun _ => 0))), (g 3, .inl (G.2.1, 16, .inl (fun _ => 0))), (g 4, .inl (G.2.1, 16, .inl (fun _ => 0))), (g 5, .inl (G.2.1, 16, .inl (fun _ => 0))), (g 6, .inl (G.2.1, 16, .inl (fun _ => 0))), (g 7, .inl (G.2.1, 16, .inl (fun _ => 0))), (g 8, .inl (G.2.1, 16, .inl (fun _ => 0))), (g 9, .inl (G.2.2.1, 16, .inl (fun _ => 0))), (g 10, .inl (G.2.2.1, 16, .inl (fun _ => 0))), (g 11, .inl (G.2.1, 16, .inl (fun _ => 0)))]
set_option maxRecDepth 100000 in
theorem c_X3_init (l : Launch) (D : va_G) (G : Gx) (h0 : Nat) : Cn l yX3_init cX3_init 1 1 11 176 D (tyG G) h0 [(h0, .inr (3, [.null, .null, .null, .null, .null, .null, .null, .null, .null, .null, .null, .int 0, .int 0]))] (wX3 G) := by
  refine m_n RX3 rfl rfl (by decide +kernel) (Nat.le_refl _) (fun K C hI ret => ?_)
  refine n_aload_n C (pc := 0) dX3_init_0 0 rfl rfl ?_
  refine n_obj C ml_X3_3 dX3_init_1 (Nat.le_of_ble_eq_true rfl) (Nat.le_of_ble_eq_true rfl) ?_
  refine n_aload_n C (pc := 4) dX3_init_4 0 rfl rfl ?_
  refine n_bipush C (pc := 5) (v := 16) dX3_init_5 (by decide) ?_
  refine n_newa C (ty := .int) ac_Jvm_ClassFile_FieldType_int rfl 0 rfl (N' := 16) (a0 := (16, .inl (fun _ => 0))) (fun _ => rfl) (by decide) (by decide) (by decide) (Nat.le_of_ble_eq_true rfl) (Nat.le_of_ble_eq_true rfl) dX3_init_7 (fun q7 => ?_)
  refine n_putF C hI (Cn := RX3) (T := TX3) (N := 13) (ci := 3) (k := 0) rfl (by decide) inX3 tyX3 tyX3_ok nmX3 fl_X3_9 rfl rfl rfl rfl rfl (Nat.le_of_ble_eq_true rfl) dX3_init_9 ?_
  refine n_aload_n C (pc := 12) dX3_init_12 0 rfl rfl ?_
  refine n_bipush C (pc := 13) (v := 16) dX3_init_13 (by decide) ?_
  refine n_newa C (ty := .int) ac_Jvm_ClassFile_FieldType_int rfl 0 rfl (N' := 16) (a0 := (16, .inl (fun _ => 0))) (fun _ => rfl) (by decide) (by decide) (by decide) (Nat.le_of_ble_eq_true rfl) (Nat.le_of_ble_eq_true rfl) dX3_init_15 (fun q15 => ?_)
  refine n_putF C hI (Cn := RX3) (T := TX3) (N := 13) (ci := 3) (k := 1) rfl (by decide) inX3 tyX3 tyX3_ok nmX3 fl_X3_15 rfl rfl rfl rfl rfl (Nat.le_of_ble_eq_true rfl) dX3_init_17 ?_
  refine n_aload_n C (pc := 20) dX3_init_20 0 rfl rfl ?_
  refine n_bipush C (pc := 21) (v := 16) dX3_init_21 (by decide) ?_
  refine n_newa C (ty := .int) ac_Jvm_ClassFile_FieldType_int rfl 0 rfl (N' := 16) (a0 := (16, .inl (fun _ => 0))) (fun _ => rfl) (by decide) (by decide) (by decide) (Nat.le_of_ble_eq_true rfl) (Nat.le_of_ble_eq_true rfl) dX3_init_23 (fun q23 => ?_)
  refine n_putF C hI (Cn := RX3) (T := TX3) (N := 13) (ci := 3) (k := 2) rfl (by decide) inX3 tyX3 tyX3_ok nmX3 fl_X3_18 rfl rfl rfl rfl rfl (Nat.le_of_ble_eq_true rfl) dX3_init_25 ?_
  refine n_aload_n C (pc := 28) dX3_init_28 0 rfl rfl ?_
  refine n_bipush C (pc := 29) (v := 16) dX3_init_29 (by decide) ?_
  refine n_newa C (ty := .int) ac_Jvm_ClassFile_FieldType_int rfl 0 rfl (N' := 16) (a0 := (16, .inl (fun _ => 0))) (fun _ => rfl) (by decide) (by decide) (by decide) (Nat.le_of_ble_eq_true rfl) (Nat.le_of_ble_eq_true rfl) dX3_init_31 (fun q31 => ?_)
  refine n_putF C hI (Cn := RX3) (T := TX3) (N := 13) (ci := 3) (k := 3) rfl (by decide) inX3 tyX3 tyX3_ok nmX3 fl_X3_21 rfl rfl rfl rfl rfl (Nat.le_of_ble_eq_true rfl) dX3_init_33 ?_
  refine n_aload_n C (pc := 36) dX3_init_36 0 rfl rfl ?_
  refine n_bipush C (pc := 37) (v := 16) dX3_init_37 (by decide) ?_
  refine n_newa C (ty := .int) ac_Jvm_ClassFile_FieldType_int rfl 0 rfl (N' := 16) (a0 := (16, .inl (fun _ => 0))) (fun _ => rfl) (by decide) (by decide) (by decide) (Nat.le_of_ble_eq_true rfl) (Nat.le_of_ble_eq_true rfl) dX3_init_39 (fun q39 => ?_)
  refine n_putF C hI (Cn := RX3) (T := TX3) (N := 13) (ci := 3) (k := 4) rfl (by decide) inX3 tyX3 tyX3_ok nmX3 fl_X3_24 rfl rfl rfl rfl rfl (Nat.le_of_ble_eq_true rfl) dX3_init_41 ?_
  refine n_aload_n C (pc := 44) dX3_init_44 0 rfl rfl ?_
  refine n_bipush C (pc := 45) (v := 16) dX3_init_45 (by decide) ?_
  refine n_newa C (ty := .int) ac_Jvm_ClassFile_FieldType_int rfl 0 rfl (N' := 16) (a0 := (16, .inl (fun _ => 0))) (fun _ => rfl) (by decide) (by decide) (by decide) (Nat.le_of_ble_eq_true rfl) (Nat.le_of_ble_eq_true rfl) dX3_init_47 (fun q47 => ?_)
  refine n_putF C hI (Cn := RX3) (T := TX3) (N := 13) (ci := 3) (k := 5) rfl (by decide) inX3 tyX3 tyX3_ok nmX3 fl_X3_27 rfl rfl rfl rfl rfl (Nat.le_of_ble_eq_true rfl) dX3_init_49 ?_
  refine n_aload_n C (pc := 52) dX3_init_52 0 rfl rfl ?_
  refine n_bipush C (pc := 53) (v := 16) dX3_init_53 (by decide) ?_
  refine n_newa C (ty := .int) ac_Jvm_ClassFile_FieldType_int rfl 0 rfl (N' := 16) (a0 := (16, .inl (fun _ => 0))) (fun _ => rfl) (by decide) (by decide) (by decide) (Nat.le_of_ble_eq_true rfl) (Nat.le_of_ble_eq_true rfl) dX3_init_55 (fun q55 => ?_)
  refine n_putF C hI (Cn := RX3) (T := TX3) (N := 13) (ci := 3) (k := 6) rfl (by decide) inX3 tyX3 tyX3_ok nmX3 fl_X3_30 rfl rfl rfl rfl rfl (Nat.le_of_ble_eq_true rfl) dX3_init_57 ?_
  refine n_aload_n C (pc := 60) dX3_init_60 0 rfl rfl ?_
  refine n_bipush C (pc := 61) (v := 16) dX3_init_61 (by decide) ?_
  refine n_newa C (ty := .int) ac_Jvm_ClassFile_FieldType_int rfl 0 rfl (N' := 16) (a0 := (16, .inl (fun _ => 0))) (fun _ => rfl) (by decide) (by decide) (by decide) (Nat.le_of_ble_eq_true rfl) (Nat.le_of_ble_eq_true rfl) dX3_init_63 (fun q63 => ?_)
  refine n_putF C hI (Cn := RX3) (T := TX3) (N := 13) (ci := 3) (k := 7) rfl (by decide) inX3 tyX3 tyX3_ok nmX3 fl_X3_33 rfl rfl rfl rfl rfl (Nat.le_of_ble_eq_true rfl) dX3_init_65 ?_
  refine n_aload_n C (pc := 68) dX3_init_68 0 rfl rfl ?_
  refine n_bipush C (pc := 69) (v := 16) dX3_init_69 (by decide) ?_
  refine n_newa C (ty := .boolean) ac_Jvm_ClassFile_FieldType_boolean rfl 1 rfl (N' := 16) (a0 := (16, .inl (fun _ => 0))) (fun _ => rfl) (by decide) (by decide) (by decide) (Nat.le_of_ble_eq_true rfl) (Nat.le_of_ble_eq_true rfl) dX3_init_71 (fun q71 => ?_)
  refine n_putF C hI (Cn := RX3) (T := TX3) (N := 13) (ci := 3) (k := 8) rfl (by decide) inX3 tyX3 tyX3_ok nmX3 fl_X3_36 rfl rfl rfl rfl rfl (Nat.le_of_ble_eq_true rfl) dX3_init_73 ?_
  refine n_aload_n C (pc := 76) dX3_init_76 0 rfl rfl ?_
  refine n_bipush C (pc := 77) (v := 16) dX3_init_77 (by decide) ?_
  refine n_newa C (ty := .boolean) ac_Jvm_ClassFile_FieldType_boolean rfl 1 rfl (N' := 16) (a0 := (16, .inl (fun _ => 0))) (fun _ => rfl) (by decide) (by decide) (by decide) (Nat.le_of_ble_eq_true rfl) (Nat.le_of_ble_eq_true rfl) dX3_init_79 (fun q79 => ?_)
  refine n_putF C hI (Cn := RX3) (T := TX3) (N := 13) (ci := 3) (k := 9) rfl (by decide) inX3 tyX3 tyX3_ok nmX3 fl_X3_40 rfl rfl rfl rfl rfl (Nat.le_of_ble_eq_true rfl) dX3_init_81 ?_
  refine n_aload_n C (pc := 84) dX3_init_84 0 rfl rfl ?_
  refine n_bipush C (pc := 85) (v := 16) dX3_init_85 (by decide) ?_
  refine n_newa C (ty := .int) ac_Jvm_ClassFile_FieldType_int rfl 0 rfl (N' := 16) (a0 := (16, .inl (fun _ => 0))) (fun _ => rfl) (by decide) (by decide) (by decide) (Nat.le_of_ble_eq_true rfl) (Nat.le_of_ble_eq_true rfl) dX3_init_87 (fun q87 => ?_)
  refine n_putF C hI (Cn := RX3) (T := TX3) (N := 13) (ci := 3) (k := 10) rfl (by decide) inX3 tyX3 tyX3_ok nmX3 fl_X3_43 rfl rfl rfl rfl rfl (Nat.le_of_ble_eq_true rfl) dX3_init_89 ?_
  exact ret (fun n => [h0, q7, q15, q23, q31, q39, q47, q55, q63, q71, q79, q87].getD n 0) _ _ _ 92 _ [0, 1, 2, 3, 4, 5, 6, 7, 8, 9, 10, 11] dX3_init_92 rfl (Nat.le_of_ble_eq_true rfl) (Nat.le_of_ble_eq_true rfl) (by decide) rfl
def wX4 (G : Gx) (g : Nat → Nat) : va_W := [(g 0, .inr (4, [.ref (g 1), .ref (g 2), .int (-9)])), (g 1, .inl (G.2.2.2.2.2, 4, .inr (.inr (.inr (.inr (fun i => some (g (3 + i)))))))), (g 2, .inl (G.2.1, 4, .inl (fun i => if i < 4 then (-1) else 0))), (g 3, .inl (G.2.2.2.1, 16, .inl (fun _ => 0))), (g 4, .inl (G.2.2.2.1, 16, .inl (fun _ => 0))), (g 5, .inl (G.2.2.2.1, 16, .inl (fun _ => 0))), (g 6, .inl (G.2.2.2.1, 16, .inl (fun _ => 0)))]
set_option maxRecDepth 100000 in
theorem c_X4_init (l : Launch) (D : va_G) (G : Gx) (h0 : Nat) : Cn l yX4_init cX4_init 1 1 6 72 D (tyG G) h0 [(h0, .inr (4, [.null, .null, .int 0]))] (wX4 G) := by
  refine m_n RX4 rfl rfl (by decide +kernel) (Nat.le_refl _) (fun K C hI ret => ?_)
  refine n_aload_n C (pc := 0) dX4_init_0 0 rfl rfl ?_
  refine n_obj C ml_X4_3 dX4_init_1 (Nat.le_of_ble_eq_true rfl) (Nat.le_of_ble_eq_true rfl) ?_
  refine n_aload_n C (pc := 4) dX4_init_4 0 rfl rfl ?_
  refine n_iconst C (pc := 5) (v := 4) dX4_init_5 (by decide) ?_
  refine n_bipush C (pc := 6) (v := 16) dX4_init_6 (by decide) ?_
  refine n_mna C (ty := .byte) (cy := G.2.2.2.1) (cA := G.2.2.2.2.2) (show Cond.classLink RX4 9 ("[" ++ (FieldType.array FieldType.byte).toString) ∈ tA from by rw [show "[" ++ (FieldType.array FieldType.byte).toString = "[[B" from by decide]; exact cl_X4_9) (fun U h => h.2.2) ac_Jvm_ClassFile_FieldType_byte 2 4 rfl rfl (fun U c h => h) (N' := 4) (K' := 16) (z := (16, .inl (fun _ => 0))) (by decide) (by decide) (by decide) (by decide) (by decide) (by decide) (by decide) rfl rfl (Nat.le_of_ble_eq_true rfl) (Nat.le_of_ble_eq_true rfl) (fun c => by show ({ cls := c, slots := Array.replicate 16 (.int 0), vm := .none } : Cell) = arrV c 16 (fun _ => .int 0); rw [arrV_new]) dX4_init_8 (fun q8 r8 => ?_)
  refine n_putF C hI (Cn := RX4) (T := TX4) (N := 3) (ci := 4) (k := 0) rfl (by decide) inX4 tyX4 tyX4_ok nmX4 fl_X4_11 rfl rfl rfl rfl rfl (Nat.le_of_ble_eq_true rfl) dX4_init_12 ?_
  refine n_aload_n C (pc := 15) dX4_init_15 0 rfl rfl ?_
  refine n_iconst C (pc := 16) (v := 4) dX4_init_16 (by decide) ?_
  refine n_newa C (ty := .int) ac_Jvm_ClassFile_FieldType_int rfl 0 rfl (N' := 4) (a0 := (4, .inl (fun _ => 0))) (fun _ => rfl) (by decide) (by decide) (by decide) (Nat.le_of_ble_eq_true rfl) (Nat.le_of_ble_eq_true rfl) dX4_init_17 (fun q17 => ?_)
  refine n_putF C hI (Cn := RX4) (T := TX4) (N := 3) (ci := 4) (k := 1) rfl (by decide) inX4 tyX4 tyX4_ok nmX4 fl_X4_16 rfl rfl rfl rfl rfl (Nat.le_of_ble_eq_true rfl) dX4_init_19 ?_
  refine n_aload_n C (pc := 22) dX4_init_22 0 rfl rfl ?_
  refine n_bipush C (pc := 23) (v := (-9)) dX4_init_23 (by decide) ?_
  refine n_put C (Cn := RX4) (T := TX4) (N := 3) (ci := 4) (k := 2) rfl (by decide) inX4 tyX4 tyX4_ok nmX4 fl_X4_20 rfl rfl rfl rfl (Nat.le_of_ble_eq_true rfl) dX4_init_25 ?_
  refine n_aload_n C (pc := 28) dX4_init_28 0 rfl rfl ?_
  refine n_get C (Cn := RX4) (T := TX4) (N := 3) (ci := 4) (k := 1) rfl (by decide) inX4 fl_X4_16 rfl rfl dX4_init_29 ?_
  refine n_iconst C (pc := 32) (v := (-1)) dX4_init_32 (by decide) ?_
  refine n_take ([(q17, .inl (G.2.1, 4, .inl (fun _ => 0)))] ++ [(h0, .inr (4, [.ref q8, .ref q17, .int (-9)])), (q8, .inl (G.2.2.2.2.2, 4, .inr (.inr (.inr (.inr (fun i => some (r8 i))))))), ((r8 0), .inl (G.2.2.2.1, 16, .inl (fun _ => 0))), ((r8 1), .inl (G.2.2.2.1, 16, .inl (fun _ => 0))), ((r8 2), .inl (G.2.2.2.1, 16, .inl (fun _ => 0))), ((r8 3), .inl (G.2.2.2.1, 16, .inl (fun _ => 0)))]) [6, 0, 1, 2, 3, 4, 5] (by decide) rfl ?_
  refine n_fill C (v := (-1)) ml_X4_24 0 rfl (by decide) (Nat.le_of_ble_eq_true rfl) (Nat.le_of_ble_eq_true rfl) ⟨(Nat.le_of_ble_eq_true rfl), (Nat.le_of_ble_eq_true rfl)⟩ dX4_init_33 ?_
  refine n_take ((h0, .inr (4, [.ref q8, .ref q17, .int (-9)])) :: [(q8, .inl (G.2.2.2.2.2, 4, .inr (.inr (.inr (.inr (fun i => some (r8 i))))))), ((r8 0), .inl (G.2.2.2.1, 16, .inl (fun _ => 0))), ((r8 1), .inl (G.2.2.2.1, 16, .inl (fun _ => 0))), ((r8 2), .inl (G.2.2.2.1, 16, .inl (fun _ => 0))), ((r8 3), .inl (G.2.2.2.1, 16, .inl (fun _ => 0))), (q17, .inl (G.2.1, 4, .inl (fun i => if i < 4 then (-1) else 0)))]) [1, 2, 3, 4, 5, 6, 0] (by decide) rfl ?_
  obtain ⟨g, g0, e1, e2, gr⟩ : ∃ g : Nat → Nat, h0 = g 0 ∧ q8 = g 1 ∧ q17 = g 2 ∧ r8 = fun i => g (3 + i) := ⟨fun n => if n < 3 then [h0, q8, q17].getD n 0 else r8 (n - 3), rfl, rfl, rfl, by funext i; simp only []; rw [if_neg (by omega), Nat.add_sub_cancel_left]⟩
  subst gr
  subst e1
  subst e2
  subst g0
  exact ret g _ _ _ 36 _ [0, 1, 6, 2, 3, 4, 5] dX4_init_36 rfl (Nat.le_of_ble_eq_true rfl) (Nat.le_of_ble_eq_true rfl) (by decide) rfl
def wX6 (G : Gx) (g : Nat → Nat) : va_W := [(g 0, .inr (6, [.ref (g 1), .ref (g 2), .ref (g 3), .ref (g 4), .ref (g 5), .int 0, .int 0, .int 0, .int 0, .int 0, .int 0, .int 0])), (g 1, .inl (G.2.1, 120, .inl (fun _ => 0))), (g 2, .inl (G.2.1, 120, .inl (fun _ => 0))), (g 3, .inl (G.2.1, 120, .inl (fun _ => 0))), (g 4, .inl (G.2.1, 120, .inl (fun _ => 0))), (g 5, .inl (G.2.1, 16, .inl (fun _ => 0)))]
set_option maxRecDepth 100000 in
theorem c_X6_init (l : Launch) (D : va_G) (G : Gx) (h0 : Nat) : Cn l yX6_init cX6_init 1 1 5 496 D (tyG G) h0 [(h0, .inr (6, [.null, .null, .null, .null, .null, .int 0, .int 0, .int 0, .int 0, .int 0, .int 0, .int 0]))] (wX6 G) := by
  refine m_n RX6 rfl rfl (by decide +kernel) (Nat.le_refl _) (fun K C hI ret => ?_)
  refine n_aload_n C (pc := 0) dX6_init_0 0 rfl rfl ?_
  refine n_obj C ml_X6_3 dX6_init_1 (Nat.le_of_ble_eq_true rfl) (Nat.le_of_ble_eq_true rfl) ?_
  refine n_aload_n C (pc := 4) dX6_init_4 0 rfl rfl ?_
  refine n_bipush C (pc := 5) (v := 120) dX6_init_5 (by decide) ?_
  refine n_newa C (ty := .int) ac_Jvm_ClassFile_FieldType_int rfl 0 rfl (N' := 120) (a0 := (120, .inl (fun _ => 0))) (fun _ => rfl) (by decide) (by decide) (by decide) (Nat.le_of_ble_eq_true rfl) (Nat.le_of_ble_eq_true rfl) dX6_init_7 (fun q7 => ?_)
  refine n_putF C hI (Cn := RX6) (T := TX6) (N := 12) (ci := 6) (k := 0) rfl (by decide) inX6 tyX6 tyX6_ok nmX6 fl_X6_9 rfl rfl rfl rfl rfl (Nat.le_of_ble_eq_true rfl) dX6_init_9 ?_
  refine n_aload_n C (pc := 12) dX6_init_12 0 rfl rfl ?_
  refine n_bipush C (pc := 13) (v := 120) dX6_init_13 (by decide) ?_
  refine n_newa C (ty := .int) ac_Jvm_ClassFile_FieldType_int rfl 0 rfl (N' := 120) (a0 := (120, .inl (fun _ => 0))) (fun _ => rfl) (by decide) (by decide) (by decide) (Nat.le_of_ble_eq_true rfl) (Nat.le_of_ble_eq_true rfl) dX6_init_15 (fun q15 => ?_)
  refine n_putF C hI (Cn := RX6) (T := TX6) (N := 12) (ci := 6) (k := 1) rfl (by decide) inX6 tyX6 tyX6_ok nmX6 fl_X6_15 rfl rfl rfl rfl rfl (Nat.le_of_ble_eq_true rfl) dX6_init_17 ?_
  refine n_aload_n C (pc := 20) dX6_init_20 0 rfl rfl ?_
  refine n_bipush C (pc := 21) (v := 120) dX6_init_21 (by decide) ?_
  refine n_newa C (ty := .int) ac_Jvm_ClassFile_FieldType_int rfl 0 rfl (N' := 120) (a0 := (120, .inl (fun _ => 0))) (fun _ => rfl) (by decide) (by decide) (by decide) (Nat.le_of_ble_eq_true rfl) (Nat.le_of_ble_eq_true rfl) dX6_init_23 (fun q23 => ?_)
  refine n_putF C hI (Cn := RX6) (T := TX6) (N := 12) (ci := 6) (k := 2) rfl (by decide) inX6 tyX6 tyX6_ok nmX6 fl_X6_18 rfl rfl rfl rfl rfl (Nat.le_of_ble_eq_true rfl) dX6_init_25 ?_
  refine n_aload_n C (pc := 28) dX6_init_28 0 rfl rfl ?_
  refine n_bipush C (pc := 29) (v := 120) dX6_init_29 (by decide) ?_
  refine n_newa C (ty := .int) ac_Jvm_ClassFile_FieldType_int rfl 0 rfl (N' := 120) (a0 := (120, .inl (fun _ => 0))) (fun _ => rfl) (by decide) (by decide) (by decide) (Nat.le_of_ble_eq_true rfl) (Nat.le_of_ble_eq_true rfl) dX6_init_31 (fun q31 => ?_)
  refine n_putF C hI (Cn := RX6) (T := TX6) (N := 12) (ci := 6) (k := 3) rfl (by decide) inX6 tyX6 tyX6_ok nmX6 fl_X6_21 rfl rfl rfl rfl rfl (Nat.le_of_ble_eq_true rfl) dX6_init_33 ?_
  refine n_aload_n C (pc := 36) dX6_init_36 0 rfl rfl ?_
  refine n_bipush C (pc := 37) (v := 16) dX6_init_37 (by decide) ?_
  refine n_newa C (ty := .int) ac_Jvm_ClassFile_FieldType_int rfl 0 rfl (N' := 16) (a0 := (16, .inl (fun _ => 0))) (fun _ => rfl) (by decide) (by decide) (by decide) (Nat.le_of_ble_eq_true rfl) (Nat.le_of_ble_eq_true rfl) dX6_init_39 (fun q39 => ?_)
  refine n_putF C hI (Cn := RX6) (T := TX6) (N := 12) (ci := 6) (k := 4) rfl (by decide) inX6 tyX6 tyX6_ok nmX6 fl_X6_24 rfl rfl rfl rfl rfl (Nat.le_of_ble_eq_true rfl) dX6_init_41 ?_
  exact ret (fun n => [h0, q7, q15, q23, q31, q39].getD n 0) _ _ _ 44 _ [0, 1, 2, 3, 4, 5] dX6_init_44 rfl (Nat.le_of_ble_eq_true rfl) (Nat.le_of_ble_eq_true rfl) (by decide) rfl
def wX1 (G : Gx) (g : Nat → Nat) : va_W := [(g 0, .inr (1, [.ref (g 1), .ref (g 2), .ref (g 3), .ref (g 4), .int 0])), (g 1, .inl (G.2.1, 16, .inl (fun _ => 0))), (g 2, .inl (G.2.1, 16, .inl (fun _ => 0))), (g 3, .inl (G.2.2.2.2.1, 16, .inr (.inr (.inr (.inr (fun i => some (g (5 + i)))))))), (g 4, .inl (G.2.1, 8192, .inl (fun _ => 0))), (g 5, .inl (G.2.1, 16, .inl (fun _ => 0))), (g 6, .inl (G.2.1, 16, .inl (fun _ => 0))), (g 7, .inl (G.2.1, 16, .inl (fun _ => 0))), (g 8, .inl (G.2.1, 16, .inl (fun _ => 0))), (g 9, .inl (G.2.1, 16, .inl (fun _ => 0))), (g 10, .inl (G.2.1, 16, .inl (fun _ => 0))), (g 11, .inl (G.2.1, 16, .inl (fun _ => 0))), (g 12, .inl (G.2.1, 16, .inl (fun _ => 0))), (g 13, .inl (G.2.1, 16, .inl (fun _ => 0))), (g 14, .inl (G.2.1, 16, .inl (fun _ => 0))), (g 15, .inl (G.2.1, 16, .inl (fun _ => 0))), (g 16, .inl (G.2.1, 16, .inl (fun _ => 0))), (g 17, .inl (G.2.1, 16, .inl (fun _ => 0))), (g 18, .inl (G.2.1, 16, .inl (fun _ => 0))), (g 19, .inl (G.2.1, 16, .inl (fun _ => 0))), (g 20, .inl (G.2.1, 16, .inl (fun _ => 0)))]
set_option maxRecDepth 100000 in
theorem c_X1_init (l : Launch) (D : va_G) (G : Gx) (h0 : Nat) : Cn l yX1_init cX1_init 1 1 20 8496 D (tyG G) h0 [(h0, .inr (1, [.null, .null, .null, .null, .int 0]))] (wX1 G) := by
  refine m_n RX1 rfl rfl (by decide +kernel) (Nat.le_refl _) (fun K C hI ret => ?_)
  refine n_aload_n C (pc := 0) dX1_init_0 0 rfl rfl ?_
  refine n_obj C ml_X1_3 dX1_init_1 (Nat.le_of_ble_eq_true rfl) (Nat.le_of_ble_eq_true rfl) ?_
  refine n_aload_n C (pc := 4) dX1_init_4 0 rfl rfl ?_
  refine n_bipush C (pc := 5) (v := 16) dX1_init_5 (by decide) ?_
  refine n_newa C (ty := .int) ac_Jvm_ClassFile_FieldType_int rfl 0 rfl (N' := 16) (a0 := (16, .inl (fun _ => 0))) (fun _ => rfl) (by decide) (by decide) (by decide) (Nat.le_of_ble_eq_true rfl) (Nat.le_of_ble_eq_true rfl) dX1_init_7 (fun q7 => ?_)
  refine n_putF C hI (Cn := RX1) (T := TX1) (N := 5) (ci := 1) (k := 0) rfl (by decide) inX1 tyX1 tyX1_ok nmX1 fl_X1_9 rfl rfl rfl rfl rfl (Nat.le_of_ble_eq_true rfl) dX1_init_9 ?_
  refine n_aload_n C (pc := 12) dX1_init_12 0 rfl rfl ?_
  refine n_bipush C (pc := 13) (v := 16) dX1_init_13 (by decide) ?_
  refine n_newa C (ty := .int) ac_Jvm_ClassFile_FieldType_int rfl 0 rfl (N' := 16) (a0 := (16, .inl (fun _ => 0))) (fun _ => rfl) (by decide) (by decide) (by decide) (Nat.le_of_ble_eq_true rfl) (Nat.le_of_ble_eq_true rfl) dX1_init_15 (fun q15 => ?_)
  refine n_putF C hI (Cn := RX1) (T := TX1) (N := 5) (ci := 1) (k := 1) rfl (by decide) inX1 tyX1 tyX1_ok nmX1 fl_X1_15 rfl rfl rfl rfl rfl (Nat.le_of_ble_eq_true rfl) dX1_init_17 ?_
  refine n_aload_n C (pc := 20) dX1_init_20 0 rfl rfl ?_
  refine n_bipush C (pc := 21) (v := 16) dX1_init_21 (by decide) ?_
  refine n_bipush C (pc := 23) (v := 16) dX1_init_23 (by decide) ?_
  refine n_mna C (ty := .int) (cy := G.2.1) (cA := G.2.2.2.2.1) (show Cond.classLink RX1 18 ("[" ++ (FieldType.array FieldType.int).toString) ∈ tA from by rw [show "[" ++ (FieldType.array FieldType.int).toString = "[[I" from by decide]; exact cl_X1_18) (fun U h => h.2.1) ac_Jvm_ClassFile_FieldType_int 0 3 rfl rfl (fun U c h => h) (N' := 16) (K' := 16) (z := (16, .inl (fun _ => 0))) (by decide) (by decide) (by decide) (by decide) (by decide) (by decide) (by decide) rfl rfl (Nat.le_of_ble_eq_true rfl) (Nat.le_of_ble_eq_true rfl) (fun c => by show ({ cls := c, slots := Array.replicate 16 (.int 0), vm := .none } : Cell) = arrV c 16 (fun _ => .int 0); rw [arrV_new]) dX1_init_25 (fun q25 r25 => ?_)
  refine n_putF C hI (Cn := RX1) (T := TX1) (N := 5) (ci := 1) (k := 2) rfl (by decide) inX1 tyX1 tyX1_ok nmX1 fl_X1_20 rfl rfl rfl rfl rfl (Nat.le_of_ble_eq_true rfl) dX1_init_29 ?_
  refine n_aload_n C (pc := 32) dX1_init_32 0 rfl rfl ?_
  refine n_sipush C (pc := 33) (v := 8192) dX1_init_33 (by decide) ?_
  refine n_newa C (ty := .int) ac_Jvm_ClassFile_FieldType_int rfl 0 rfl (N' := 8192) (a0 := (8192, .inl (fun _ => 0))) (fun _ => rfl) (by decide) (by decide) (by decide) (Nat.le_of_ble_eq_true rfl) (Nat.le_of_ble_eq_true rfl) dX1_init_36 (fun q36 => ?_)
  refine n_putF C hI (Cn := RX1) (T := TX1) (N := 5) (ci := 1) (k := 3) rfl (by decide) inX1 tyX1 tyX1_ok nmX1 fl_X1_23 rfl rfl rfl rfl rfl (Nat.le_of_ble_eq_true rfl) dX1_init_38 ?_
  obtain ⟨g, g0, e1, e2, e3, e4, gr⟩ : ∃ g : Nat → Nat, h0 = g 0 ∧ q7 = g 1 ∧ q15 = g 2 ∧ q25 = g 3 ∧ q36 = g 4 ∧ r25 = fun i => g (5 + i) := ⟨fun n => if n < 5 then [h0, q7, q15, q25, q36].getD n 0 else r25 (n - 5), rfl, rfl, rfl, rfl, rfl, by funext i; simp only []; rw [if_neg (by omega), Nat.add_sub_cancel_left]⟩
  subst gr
  subst e1
  subst e2
  subst e3
  subst e4
  subst g0
  exact ret g _ _ _ 41 _ [0, 1, 2, 3, 20, 4, 5, 6, 7, 8, 9, 10, 11, 12, 13, 14, 15, 16, 17, 18, 19] dX1_init_41 rfl (Nat.le_of_ble_eq_true rfl) (Nat.le_of_ble_eq_true rfl) (by decide) rfl
def wX0 (G : Gx) (g : Nat → Nat) : va_W := [(g 0, .inr (0, [.ref (g 1), .ref (g 2), .ref (g 3), .int 0])), (g 1, .inl (G.2.1, 12, .inl (fun _ => 0))), (g 2, .inl (G.2.1, 12, .inl (fun _ => 0))), (g 3, .inl (G.2.1, 12, .inl (fun _ => 0)))]
set_option maxRecDepth 100000 in
theorem c_X0_init (l : Launch) (D : va_G) (G : Gx) (h0 : Nat) : Cn l yX0_init cX0_init 1 1 3 36 D (tyG G) h0 [(h0, .inr (0, [.null, .null, .null, .int 0]))] (wX0 G) := by
  refine m_n RX0 rfl rfl (by decide +kernel) (Nat.le_refl _) (fun K C hI ret => ?_)
  refine n_aload_n C (pc := 0) dX0_init_0 0 rfl rfl ?_
  refine n_obj C ml_X0_3 dX0_init_1 (Nat.le_of_ble_eq_true rfl) (Nat.le_of_ble_eq_true rfl) ?_
  refine n_aload_n C (pc := 4) dX0_init_4 0 rfl rfl ?_
  refine n_bipush C (pc := 5) (v := 12) dX0_init_5 (by decide) ?_
  refine n_newa C (ty := .int) ac_Jvm_ClassFile_FieldType_int rfl 0 rfl (N' := 12) (a0 := (12, .inl (fun _ => 0))) (fun _ => rfl) (by decide) (by decide) (by decide) (Nat.le_of_ble_eq_true rfl) (Nat.le_of_ble_eq_true rfl) dX0_init_7 (fun q7 => ?_)
  refine n_putF C hI (Cn := RX0) (T := TX0) (N := 4) (ci := 0) (k := 0) rfl (by decide) inX0 tyX0 tyX0_ok nmX0 fl_X0_9 rfl rfl rfl rfl rfl (Nat.le_of_ble_eq_true rfl) dX0_init_9 ?_
  refine n_aload_n C (pc := 12) dX0_init_12 0 rfl rfl ?_
  refine n_bipush C (pc := 13) (v := 12) dX0_init_13 (by decide) ?_
  refine n_newa C (ty := .int) ac_Jvm_ClassFile_FieldType_int rfl 0 rfl (N' := 12) (a0 := (12, .inl (fun _ => 0))) (fun _ => rfl) (by decide) (by decide) (by decide) (Nat.le_of_ble_eq_true rfl) (Nat.le_of_ble_eq_true rfl) dX0_init_15 (fun q15 => ?_)
  refine n_putF C hI (Cn := RX0) (T := TX0) (N := 4) (ci := 0) (k := 1) rfl (by decide) inX0 tyX0 tyX0_ok nmX0 fl_X0_15 rfl rfl rfl rfl rfl (Nat.le_of_ble_eq_true rfl) dX0_init_17 ?_
  refine n_aload_n C (pc := 20) dX0_init_20 0 rfl rfl ?_
  refine n_bipush C (pc := 21) (v := 12) dX0_init_21 (by decide) ?_
  refine n_newa C (ty := .int) ac_Jvm_ClassFile_FieldType_int rfl 0 rfl (N' := 12) (a0 := (12, .inl (fun _ => 0))) (fun _ => rfl) (by decide) (by decide) (by decide) (Nat.le_of_ble_eq_true rfl) (Nat.le_of_ble_eq_true rfl) dX0_init_23 (fun q23 => ?_)
  refine n_putF C hI (Cn := RX0) (T := TX0) (N := 4) (ci := 0) (k := 2) rfl (by decide) inX0 tyX0 tyX0_ok nmX0 fl_X0_18 rfl rfl rfl rfl rfl (Nat.le_of_ble_eq_true rfl) dX0_init_25 ?_
  exact ret (fun n => [h0, q7, q15, q23].getD n 0) _ _ _ 28 _ [0, 1, 2, 3] dX0_init_28 rfl (Nat.le_of_ble_eq_true rfl) (Nat.le_of_ble_eq_true rfl) (by decide) rfl
def wX7 (G : Gx) (g : Nat → Nat) : va_W := [(g 0, .inr (7, [.ref (g 1), .ref (g 2), .ref (g 3), .ref (g 4), .ref (g 5), .ref (g 6), .ref (g 7), .int 0, .int 0, .int 0, .int 0])), (g 1, .inl (G.2.1, 16, .inl (fun _ => 0))), (g 2, .inl (G.2.1, 16, .inl (fun i => if i < 16 then (-9) else 0))), (g 3, .inl (G.2.1, 16, .inl (fun i => if i < 16 then (-9) else 0))), (g 4, .inl (G.2.1, 16, .inl (fun i => if i < 16 then (-9) else 0))), (g 5, .inl (G.2.1, 16, .inl (fun i => if i < 16 then (-9) else 0))), (g 6, .inl (G.2.1, 16, .inl (fun _ => 0))), (g 7, .inl (G.2.1, 16, .inl (fun _ => 0)))]
set_option maxRecDepth 100000 in
theorem c_X7_init (l : Launch) (D : va_G) (G : Gx) (h0 : Nat) : Cn l yX7_init cX7_init 1 1 7 112 D (tyG G) h0 [(h0, .inr (7, [.null, .null, .null, .null, .null, .null, .null, .int 0, .int 0, .int 0, .int 0]))] (wX7 G) := by
  refine m_n RX7 rfl rfl (by decide +kernel) (Nat.le_refl _) (fun K C hI ret => ?_)
  refine n_aload_n C (pc := 0) dX7_init_0 0 rfl rfl ?_
  refine n_obj C ml_X7_3 dX7_init_1 (Nat.le_of_ble_eq_true rfl) (Nat.le_of_ble_eq_true rfl) ?_
  refine n_aload_n C (pc := 4) dX7_init_4 0 rfl rfl ?_
  refine n_bipush C (pc := 5) (v := 16) dX7_init_5 (by decide) ?_
  refine n_newa C (ty := .int) ac_Jvm_ClassFile_FieldType_int rfl 0 rfl (N' := 16) (a0 := (16, .inl (fun _ => 0))) (fun _ => rfl) (by decide) (by decide) (by decide) (Nat.le_of_ble_eq_true rfl) (Nat.le_of_ble_eq_true rfl) dX7_init_7 (fun q7 => ?_)
  refine n_putF C hI (Cn := RX7) (T := TX7) (N := 11) (ci := 7) (k := 0) rfl (by decide) inX7 tyX7 tyX7_ok nmX7 fl_X7_9 rfl rfl rfl rfl rfl (Nat.le_of_ble_eq_true rfl) dX7_init_9 ?_
  refine n_aload_n C (pc := 12) dX7_init_12 0 rfl rfl ?_
  refine n_bipush C (pc := 13) (v := 16) dX7_init_13 (by decide) ?_
  refine n_newa C (ty := .int) ac_Jvm_ClassFile_FieldType_int rfl 0 rfl (N' := 16) (a0 := (16, .inl (fun _ => 0))) (fun _ => rfl) (by decide) (by decide) (by decide) (Nat.le_of_ble_eq_true rfl) (Nat.le_of_ble_eq_true rfl) dX7_init_15 (fun q15 => ?_)
  refine n_putF C hI (Cn := RX7) (T := TX7) (N := 11) (ci := 7) (k := 1) rfl (by decide) inX7 tyX7 tyX7_ok nmX7 fl_X7_15 rfl rfl rfl rfl rfl (Nat.le_of_ble_eq_true rfl) dX7_init_17 ?_
  refine n_aload_n C (pc := 20) dX7_init_20 0 rfl rfl ?_
  refine n_bipush C (pc := 21) (v := 16) dX7_init_21 (by decide) ?_
  refine n_newa C (ty := .int) ac_Jvm_ClassFile_FieldType_int rfl 0 rfl (N' := 16) (a0 := (16, .inl (fun _ => 0))) (fun _ => rfl) (by decide) (by decide) (by decide) (Nat.le_of_ble_eq_true rfl) (Nat.le_of_ble_eq_true rfl) dX7_init_23 (fun q23 => ?_)
  refine n_putF C hI (Cn := RX7) (T := TX7) (N := 11) (ci := 7) (k := 2) rfl (by decide) inX7 tyX7 tyX7_ok nmX7 fl_X7_18 rfl rfl rfl rfl rfl (Nat.le_of_ble_eq_true rfl) dX7_init_25 ?_
  refine n_aload_n C (pc := 28) dX7_init_28 0 rfl rfl ?_
  refine n_bipush C (pc := 29) (v := 16) dX7_init_29 (by decide) ?_
  refine n_newa C (ty := .int) ac_Jvm_ClassFile_FieldType_int rfl 0 rfl (N' := 16) (a0 := (16, .inl (fun _ => 0))) (fun _ => rfl) (by decide) (by decide) (by decide) (Nat.le_of_ble_eq_true rfl) (Nat.le_of_ble_eq_true rfl) dX7_init_31 (fun q31 => ?_)
  refine n_putF C hI (Cn := RX7) (T := TX7) (N := 11) (ci := 7) (k := 3) rfl (by decide) inX7 tyX7 tyX7_ok nmX7 fl_X7_21 rfl rfl rfl rfl rfl (Nat.le_of_ble_eq_true rfl) dX7_init_33 ?_
  refine n_aload_n C (pc := 36) dX7_init_36 0 rfl rfl ?_
  refine n_bipush C (pc := 37) (v := 16) dX7_init_37 (by decide) ?_
  refine n_newa C (ty := .int) ac_Jvm_ClassFile_FieldType_int rfl 0 rfl (N' := 16) (a0 := (16, .inl (fun _ => 0))) (fun _ => rfl) (by decide) (by decide) (by decide) (Nat.le_of_ble_eq_true rfl) (Nat.le_of_ble_eq_true rfl) dX7_init_39 (fun q39 => ?_)
  refine n_putF C hI (Cn := RX7) (T := TX7) (N := 11) (ci := 7) (k := 4) rfl (by decide) inX7 tyX7 tyX7_ok nmX7 fl_X7_24 rfl rfl rfl rfl rfl (Nat.le_of_ble_eq_true rfl) dX7_init_41 ?_
  refine n_aload_n C (pc := 44) dX7_init_44 0 rfl rfl ?_
  refine n_bipush C (pc := 45) (v := 16) dX7_init_45 (by decide) ?_
  refine n_newa C (ty := .int) ac_Jvm_ClassFile_FieldType_int rfl 0 rfl (N' := 16) (a0 := (16, .inl (fun _ => 0))) (fun _ => rfl) (by decide) (by decide) (by decide) (Nat.le_of_ble_eq_true rfl) (Nat.le_of_ble_eq_true rfl) dX7_init_47 (fun q47 => ?_)
  refine n_putF C hI (Cn := RX7) (T := TX7) (N := 11) (ci := 7) (k := 5) rfl (by decide) inX7 tyX7 tyX7_ok nmX7 fl_X7_27 rfl rfl rfl rfl rfl (Nat.le_of_ble_eq_true rfl) dX7_init_49 ?_
  refine n_aload_n C (pc := 52) dX7_init_52 0 rfl rfl ?_
  refine n_bipush C (pc := 53) (v := 16) dX7_init_53 (by decide) ?_
  refine n_newa C (ty := .int) ac_Jvm_ClassFile_FieldType_int rfl 0 rfl (N' := 16) (a0 := (16, .inl (fun _ => 0))) (fun _ => rfl) (by decide) (by decide) (by decide) (Nat.le_of_ble_eq_true rfl) (Nat.le_of_ble_eq_true rfl) dX7_init_55 (fun q55 => ?_)
  refine n_putF C hI (Cn := RX7) (T := TX7) (N := 11) (ci := 7) (k := 6) rfl (by decide) inX7 tyX7 tyX7_ok nmX7 fl_X7_30 rfl rfl rfl rfl rfl (Nat.le_of_ble_eq_true rfl) dX7_init_57 ?_
  refine n_aload_n C (pc := 60) dX7_init_60 0 rfl rfl ?_
  refine n_get C (Cn := RX7) (T := TX7) (N := 11) (ci := 7) (k := 1) rfl (by decide) inX7 fl_X7_15 rfl rfl dX7_init_61 ?_
  refine n_bipush C (pc := 64) (v := (-9)) dX7_init_64 (by decide) ?_
  refine n_take ([(q15, .inl (G.2.1, 16, .inl (fun _ => 0)))] ++ [(h0, .inr (7, [.ref q7, .ref q15, .ref q23, .ref q31, .ref q39, .ref q47, .ref q55, .int 0, .int 0, .int 0, .int 0])), (q7, .inl (G.2.1, 16, .inl (fun _ => 0))), (q23, .inl (G.2.1, 16, .inl (fun _ => 0))), (q31, .inl (G.2.1, 16, .inl (fun _ => 0))), (q39, .inl (G.2.1, 16, .inl (fun _ => 0))), (q47, .inl (G.2.1, 16, .inl (fun _ => 0))), (q55, .inl (G.2.1, 16, .inl (fun _ => 0)))]) [2, 0, 1, 3, 4, 5, 6, 7] (by decide) rfl ?_
  refine n_fill C (v := (-9)) ml_X7_33 0 rfl (by decide) (Nat.le_of_ble_eq_true rfl) (Nat.le_of_ble_eq_true rfl) ⟨(Nat.le_of_ble_eq_true rfl), (Nat.le_of_ble_eq_true rfl)⟩ dX7_init_66 ?_
  refine n_take ((h0, .inr (7, [.ref q7, .ref q15, .ref q23, .ref q31, .ref q39, .ref q47, .ref q55, .int 0, .int 0, .int 0, .int 0])) :: [(q7, .inl (G.2.1, 16, .inl (fun _ => 0))), (q15, .inl (G.2.1, 16, .inl (fun i => if i < 16 then (-9) else 0))), (q23, .inl (G.2.1, 16, .inl (fun _ => 0))), (q31, .inl (G.2.1, 16, .inl (fun _ => 0))), (q39, .inl (G.2.1, 16, .inl (fun _ => 0))), (q47, .inl (G.2.1, 16, .inl (fun _ => 0))), (q55, .inl (G.2.1, 16, .inl (fun _ => 0)))]) [1, 2, 0, 3, 4, 5, 6, 7] (by decide) rfl ?_
  refine n_aload_n C (pc := 69) dX7_init_69 0 rfl rfl ?_
  refine n_get C (Cn := RX7) (T := TX7) (N := 11) (ci := 7) (k := 2) rfl (by decide) inX7 fl_X7_18 rfl rfl dX7_init_70 ?_
  refine n_bipush C (pc := 73) (v := (-9)) dX7_init_73 (by decide) ?_
  refine n_take ([(q23, .inl (G.2.1, 16, .inl (fun _ => 0)))] ++ [(h0, .inr (7, [.ref q7, .ref q15, .ref q23, .ref q31, .ref q39, .ref q47, .ref q55, .int 0, .int 0, .int 0, .int 0])), (q7, .inl (G.2.1, 16, .inl (fun _ => 0))), (q15, .inl (G.2.1, 16, .inl (fun i => if i < 16 then (-9) else 0))), (q31, .inl (G.2.1, 16, .inl (fun _ => 0))), (q39, .inl (G.2.1, 16, .inl (fun _ => 0))), (q47, .inl (G.2.1, 16, .inl (fun _ => 0))), (q55, .inl (G.2.1, 16, .inl (fun _ => 0)))]) [3, 0, 1, 2, 4, 5, 6, 7] (by decide) rfl ?_
  refine n_fill C (v := (-9)) ml_X7_33 0 rfl (by decide) (Nat.le_of_ble_eq_true rfl) (Nat.le_of_ble_eq_true rfl) ⟨(Nat.le_of_ble_eq_true rfl), (Nat.le_of_ble_eq_true rfl)⟩ dX7_init_75 ?_
  refine n_take ((h0, .inr (7, [.ref q7, .ref q15, .ref q23, .ref q31, .ref q39, .ref q47, .ref q55, .int 0, .int 0, .int 0, .int 0])) :: [(q7, .inl (G.2.1, 16, .inl (fun _ => 0))), (q15, .inl (G.2.1, 16, .inl (fun i => if i < 16 then (-9) else 0))), (q23, .inl (G.2.1, 16, .inl (fun i => if i < 16 then (-9) else 0))), (q31, .inl (G.2.1, 16, .inl (fun _ => 0))), (q39, .inl (G.2.1, 16, .inl (fun _ => 0))), (q47, .inl (G.2.1, 16, .inl (fun _ => 0))), (q55, .inl (G.2.1, 16, .inl (fun _ => 0)))]) [1, 2, 3, 0, 4, 5, 6, 7] (by decide) rfl ?_
  refine n_aload_n C (pc := 78) dX7_init_78 0 rfl rfl ?_
  refine n_get C (Cn := RX7) (T := TX7) (N := 11) (ci := 7) (k := 3) rfl (by decide) inX7 fl_X7_21 rfl rfl dX7_init_79 ?_
  refine n_bipush C (pc := 82) (v := (-9)) dX7_init_82 (by decide) ?_
  refine n_take ([(q31, .inl (G.2.1, 16, .inl (fun _ => 0)))] ++ [(h0, .inr (7, [.ref q7, .ref q15, .ref q23, .ref q31, .ref q39, .ref q47, .ref q55, .int 0, .int 0, .int 0, .int 0])), (q7, .inl (G.2.1, 16, .inl (fun _ => 0))), (q15, .inl (G.2.1, 16, .inl (fun i => if i < 16 then (-9) else 0))), (q23, .inl (G.2.1, 16, .inl (fun i => if i < 16 then (-9) else 0))), (q39, .inl (G.2.1, 16, .inl (fun _ => 0))), (q47, .inl (G.2.1, 16, .inl (fun _ => 0))), (q55, .inl (G.2.1, 16, .inl (fun _ => 0)))]) [4, 0, 1, 2, 3, 5, 6, 7] (by decide) rfl ?_
  refine n_fill C (v := (-9)) ml_X7_33 0 rfl (by decide) (Nat.le_of_ble_eq_true rfl) (Nat.le_of_ble_eq_true rfl) ⟨(Nat.le_of_ble_eq_true rfl), (Nat.le_of_ble_eq_true rfl)⟩ dX7_init_84 ?_
  refine n_take ((h0, .inr (7, [.ref q7, .ref q15, .ref q23, .ref q31, .ref q39, .ref q47, .ref q55, .int 0, .int 0, .int 0, .int 0])) :: [(q7, .inl (G.2.1, 16, .inl (fun _ => 0))), (q15, .inl (G.2.1, 16, .inl (fun i => if i < 16 then (-9) else 0))), (q23, .inl (G.2.1, 16, .inl (fun i => if i < 16 then (-9) else 0))), (q31, .inl (G.2.1, 16, .inl (fun i => if i < 16 then (-9) else 0))), (q39, .inl (G.2.1, 16, .inl (fun _ => 0))), (q47, .inl (G.2.1, 16, .inl (fun _ => 0))), (q55, .inl (G.2.1, 16, .inl (fun _ => 0)))]) [1, 2, 3, 4, 0, 5, 6, 7] (by decide) rfl ?_
  refine n_aload_n C (pc := 87) dX7_init_87 0 rfl rfl ?_
  refine n_get C (Cn := RX7) (T := TX7) (N := 11) (ci := 7) (k := 4) rfl (by decide) inX7 fl_X7_24 rfl rfl dX7_init_88 ?_
  refine n_bipush C (pc := 91) (v := (-9)) dX7_init_91 (by decide) ?_
  refine n_take ([(q39, .inl (G.2.1, 16, .inl (fun _ => 0)))] ++ [(h0, .inr (7, [.ref q7, .ref q15, .ref q23, .ref q31, .ref q39, .ref q47, .ref q55, .int 0, .int 0, .int 0, .int 0])), (q7, .inl (G.2.1, 16, .inl (fun _ => 0))), (q15, .inl (G.2.1, 16, .inl (fun i => if i < 16 then (-9) else 0))), (q23, .inl (G.2.1, 16, .inl (fun i => if i < 16 then (-9) else 0))), (q31, .inl (G.2.1, 16, .inl (fun i => if i < 16 then (-9) else 0))), (q47, .inl (G.2.1, 16, .inl (fun _ => 0))), (q55, .inl (G.2.1, 16, .inl (fun _ => 0)))]) [5, 0, 1, 2, 3, 4, 6, 7] (by decide) rfl ?_
  refine n_fill C (v := (-9)) ml_X7_33 0 rfl (by decide) (Nat.le_of_ble_eq_true rfl) (Nat.le_of_ble_eq_true rfl) ⟨(Nat.le_of_ble_eq_true rfl), (Nat.le_of_ble_eq_true rfl)⟩ dX7_init_93 ?_
  refine n_take ((h0, .inr (7, [.ref q7, .ref q15, .ref q23, .ref q31, .ref q39, .ref q47, .ref q55, .int 0, .int 0, .int 0, .int 0])) :: [(q7, .inl (G.2.1, 16, .inl (fun _ => 0))), (q15, .inl (G.2.1, 16, .inl (fun i => if i < 16 then (-9) else 0))), (q23, .inl (G.2.1, 16, .inl (fun i => if i < 16 then (-9) else 0))), (q31, .inl (G.2.1, 16, .inl (fun i => if i < 16 then (-9) else 0))), (q39, .inl (G.2.1, 16, .inl (fun i => if i < 16 then (-9) else 0))), (q47, .inl (G.2.1, 16, .inl (fun _ => 0))), (q55, .inl (G.2.1, 16, .inl (fun _ => 0)))]) [1, 2, 3, 4, 5, 0, 6, 7] (by decide) rfl ?_
  exact ret (fun n => [h0, q7, q15, q23, q31, q39, q47, q55].getD n 0) _ _ _ 96 _ [0, 1, 2, 3, 4, 5, 6, 7] dX7_init_96 rfl (Nat.le_of_ble_eq_true rfl) (Nat.le_of_ble_eq_true rfl) (by decide) rfl
def wX5 (G : Gx) (g : Nat → Nat) : va_W := [(g 0, .inr (5, [.ref (g 1), .int 0, .int 0, .int (-9)])), (g 1, .inl (G.2.1, 16, .inl (fun _ => 0)))]
set_option maxRecDepth 100000 in
theorem c_X5_init (l : Launch) (D : va_G) (G : Gx) (h0 : Nat) : Cn l yX5_init cX5_init 1 1 1 16 D (tyG G) h0 [(h0, .inr (5, [.null, .int 0, .int 0, .int 0]))] (wX5 G) := by
  refine m_n RX5 rfl rfl (by decide +kernel) (Nat.le_refl _) (fun K C hI ret => ?_)
  refine n_aload_n C (pc := 0) dX5_init_0 0 rfl rfl ?_
  refine n_obj C ml_X5_3 dX5_init_1 (Nat.le_of_ble_eq_true rfl) (Nat.le_of_ble_eq_true rfl) ?_
  refine n_aload_n C (pc := 4) dX5_init_4 0 rfl rfl ?_
  refine n_bipush C (pc := 5) (v := 16) dX5_init_5 (by decide) ?_
  refine n_newa C (ty := .int) ac_Jvm_ClassFile_FieldType_int rfl 0 rfl (N' := 16) (a0 := (16, .inl (fun _ => 0))) (fun _ => rfl) (by decide) (by decide) (by decide) (Nat.le_of_ble_eq_true rfl) (Nat.le_of_ble_eq_true rfl) dX5_init_7 (fun q7 => ?_)
  refine n_putF C hI (Cn := RX5) (T := TX5) (N := 4) (ci := 5) (k := 0) rfl (by decide) inX5 tyX5 tyX5_ok nmX5 fl_X5_9 rfl rfl rfl rfl rfl (Nat.le_of_ble_eq_true rfl) dX5_init_9 ?_
  refine n_aload_n C (pc := 12) dX5_init_12 0 rfl rfl ?_
  refine n_bipush C (pc := 13) (v := (-9)) dX5_init_13 (by decide) ?_
  refine n_put C (Cn := RX5) (T := TX5) (N := 4) (ci := 5) (k := 3) rfl (by decide) inX5 tyX5 tyX5_ok nmX5 fl_X5_15 rfl rfl rfl rfl (Nat.le_of_ble_eq_true rfl) dX5_init_15 ?_
  exact ret (fun n => [h0, q7].getD n 0) _ _ _ 18 _ [0, 1] dX5_init_18 rfl (Nat.le_of_ble_eq_true rfl) (Nat.le_of_ble_eq_true rfl) (by decide) rfl
