/-- a new RankBoard's state -/
def X0 : St := fun a => match a with
  | 22 => fun i => if i < 4 then (-1) else 0
  | 36 => fun i => if i < 16 then (-9) else 0
  | 37 => fun i => if i < 16 then (-9) else 0
  | 38 => fun i => if i < 16 then (-9) else 0
  | 39 => fun i => if i < 16 then (-9) else 0
  | 103 => fun _ => (-9)
  | 119 => fun _ => (-9)
  | _ => fun _ => 0
theorem n_oset {K : Cx} {nL kc ns : Nat} {ws : va_W} {pc : Nat} {lv : List (Nat × Value)} {rest : List Value} (k0 : Nat) {q N : Nat} {cA : ClassId} {f : Nat → Option Nat} (f2 : Nat → Option Nat) (h : ∀ j, j < N → f j = f2 j) (he : ws[k0]? = some (q, .inl (cA, N, .inr (.inr (.inr (.inr f)))))) (k : WN K nL kc ns (ws.set k0 (q, .inl (cA, N, .inr (.inr (.inr (.inr f2)))))) pc lv rest) : WN K nL kc ns ws pc lv rest := by
  obtain ⟨p, l, e, R, s, m, args, below, meth, c, Q, D, A⟩ := K
  have hl : k0 < ws.length := (List.getElem?_eq_some_iff.mp he).1
  intro H locs ls hP hD hS hll
  refine k H locs ls (fun i x hx => ?_) (va_D.adr ?_ hD) hS hll
  · rw [List.getElem?_set] at hx
    by_cases e1 : k0 = i
    · rw [if_pos e1, if_pos (e1 ▸ hl)] at hx
      cases hx
      have h2 : H[q]? = some (vp_cell cA (N, .inr (.inr (.inr (.inr f))))) := hP k0 _ he
      show H[q]? = some (vp_cell cA (N, .inr (.inr (.inr (.inr f2)))))
      rw [h2, vp_cell_q, vp_cell_q, arrV_cg (fun j hj => by rw [h j hj])]
    · rw [if_neg e1] at hx
      exact hP i x hx
  · rw [List.map_set]
    apply List.ext_getElem?
    intro i
    rw [List.getElem?_set]
    by_cases e1 : k0 = i
    · subst e1
      rw [if_pos rfl, List.length_map, if_pos hl, List.getElem?_map, he]
      rfl
    · rw [if_neg e1]
set_option maxRecDepth 100000 in
set_option maxHeartbeats 2000000 in
theorem c_X8_init (l : Launch) (D : va_G) (G : Gx) (h0 : Nat) : Cn l yX8_init cX8_init 1 2 62 9464 D (tyG G) h0 [(h0, .inr (8, [.null, .null, .null, .null, .null, .null, .null, .null]))] (fun g => xw (g, G.2) X0) := by
  refine m_n RX8 rfl rfl (by decide +kernel) (Nat.le_refl _) (fun K C hI ret => ?_)
  refine n_aload_n C (pc := 0) dX8_init_0 0 rfl rfl ?_
  refine n_obj C ml_X8_3 dX8_init_1 (Nat.le_of_ble_eq_true rfl) (Nat.le_of_ble_eq_true rfl) ?_
  refine n_aload_n C (pc := 4) dX8_init_4 0 rfl rfl ?_
  refine n_new C (Cn := RX2) (T := TX2) (N := 2) (ci := 2) (fs := [.null, .int 0]) inX2 tyX2 tyX2_ok cl_X8_9 ib_X2 in_X2 rfl (by decide) (Nat.le_of_ble_eq_true rfl) (Nat.le_of_ble_eq_true rfl) dX8_init_5 (fun q2 => ?_)
  refine n_dup C dX8_init_8 rfl ?_
  refine n_callIN C (host := RX8) (fun l D => c_X2_init l D G q2) (by decide +kernel) co_X2_init im_X2_init in_X2 rfl (by decide +kernel) (Nat.le_of_ble_eq_true rfl) (Nat.le_of_ble_eq_true rfl) (Nat.le_of_ble_eq_true rfl) ⟨(Nat.le_of_ble_eq_true rfl), (Nat.le_of_ble_eq_true rfl)⟩ dX8_init_9 (fun g2 e => ?_)
  subst e
  refine n_ws (ws' := (h0, .inr (8, [.null, .null, .null, .null, .null, .null, .null, .null])) :: ([] ++ wX2 G g2)) rfl ?_
  refine n_putF C hI (Cn := RX8) (T := TX8) (N := 8) (ci := 8) (k := 0) rfl (by decide) inX8 tyX8 tyX8_ok nmX8 fl_X8_12 rfl rfl rfl rfl rfl (Nat.le_of_ble_eq_true rfl) dX8_init_12 ?_
  refine n_ws (ws' := (h0, .inr (8, [.ref (g2 0), .null, .null, .null, .null, .null, .null, .null])) :: ([] ++ wX2 G g2)) rfl ?_
  refine n_aload_n C (pc := 15) dX8_init_15 0 rfl rfl ?_
  refine n_new C (Cn := RX3) (T := TX3) (N := 13) (ci := 3) (fs := [.null, .null, .null, .null, .null, .null, .null, .null, .null, .null, .null, .int 0, .int 0]) inX3 tyX3 tyX3_ok cl_X8_16 ib_X3 in_X3 rfl (by decide) (Nat.le_of_ble_eq_true rfl) (Nat.le_of_ble_eq_true rfl) dX8_init_16 (fun q3 => ?_)
  refine n_dup C dX8_init_19 rfl ?_
  refine n_callIN C (host := RX8) (fun l D => c_X3_init l D G q3) (by decide +kernel) co_X3_init im_X3_init in_X3 rfl (by decide +kernel) (Nat.le_of_ble_eq_true rfl) (Nat.le_of_ble_eq_true rfl) (Nat.le_of_ble_eq_true rfl) ⟨(Nat.le_of_ble_eq_true rfl), (Nat.le_of_ble_eq_true rfl)⟩ dX8_init_20 (fun g3 e => ?_)
  subst e
  refine n_ws (ws' := (h0, .inr (8, [.ref (g2 0), .null, .null, .null, .null, .null, .null, .null])) :: (([] ++ wX2 G g2) ++ wX3 G g3)) rfl ?_
  refine n_putF C hI (Cn := RX8) (T := TX8) (N := 8) (ci := 8) (k := 1) rfl (by decide) inX8 tyX8 tyX8_ok nmX8 fl_X8_19 rfl rfl rfl rfl rfl (Nat.le_of_ble_eq_true rfl) dX8_init_23 ?_
  refine n_ws (ws' := (h0, .inr (8, [.ref (g2 0), .ref (g3 0), .null, .null, .null, .null, .null, .null])) :: (([] ++ wX2 G g2) ++ wX3 G g3)) rfl ?_
  refine n_aload_n C (pc := 26) dX8_init_26 0 rfl rfl ?_
  refine n_new C (Cn := RX4) (T := TX4) (N := 3) (ci := 4) (fs := [.null, .null, .int 0]) inX4 tyX4 tyX4_ok cl_X8_23 ib_X4 in_X4 rfl (by decide) (Nat.le_of_ble_eq_true rfl) (Nat.le_of_ble_eq_true rfl) dX8_init_27 (fun q4 => ?_)
  refine n_dup C dX8_init_30 rfl ?_
  refine n_callI C (fun l D => c_X4_init l D G q4) ml_X8_25 co_X4_init im_X4_init in_X4 rfl (by decide +kernel) (Nat.le_of_ble_eq_true rfl) (Nat.le_of_ble_eq_true rfl) (Nat.le_of_ble_eq_true rfl) ⟨(Nat.le_of_ble_eq_true rfl), (Nat.le_of_ble_eq_true rfl)⟩ dX8_init_31 (fun g4 e => ?_)
  subst e
  refine n_ws (ws' := (h0, .inr (8, [.ref (g2 0), .ref (g3 0), .null, .null, .null, .null, .null, .null])) :: ((([] ++ wX2 G g2) ++ wX3 G g3) ++ wX4 G g4)) rfl ?_
  refine n_putF C hI (Cn := RX8) (T := TX8) (N := 8) (ci := 8) (k := 2) rfl (by decide) inX8 tyX8 tyX8_ok nmX8 fl_X8_26 rfl rfl rfl rfl rfl (Nat.le_of_ble_eq_true rfl) dX8_init_34 ?_
  refine n_ws (ws' := (h0, .inr (8, [.ref (g2 0), .ref (g3 0), .ref (g4 0), .null, .null, .null, .null, .null])) :: ((([] ++ wX2 G g2) ++ wX3 G g3) ++ wX4 G g4)) rfl ?_
  refine n_aload_n C (pc := 37) dX8_init_37 0 rfl rfl ?_
  refine n_new C (Cn := RX6) (T := TX6) (N := 12) (ci := 6) (fs := [.null, .null, .null, .null, .null, .int 0, .int 0, .int 0, .int 0, .int 0, .int 0, .int 0]) inX6 tyX6 tyX6_ok cl_X8_30 ib_X6 in_X6 rfl (by decide) (Nat.le_of_ble_eq_true rfl) (Nat.le_of_ble_eq_true rfl) dX8_init_38 (fun q6 => ?_)
  refine n_dup C dX8_init_41 rfl ?_
  refine n_callIN C (host := RX8) (fun l D => c_X6_init l D G q6) (by decide +kernel) co_X6_init im_X6_init in_X6 rfl (by decide +kernel) (Nat.le_of_ble_eq_true rfl) (Nat.le_of_ble_eq_true rfl) (Nat.le_of_ble_eq_true rfl) ⟨(Nat.le_of_ble_eq_true rfl), (Nat.le_of_ble_eq_true rfl)⟩ dX8_init_42 (fun g6 e => ?_)
  subst e
  refine n_ws (ws' := (h0, .inr (8, [.ref (g2 0), .ref (g3 0), .ref (g4 0), .null, .null, .null, .null, .null])) :: (((([] ++ wX2 G g2) ++ wX3 G g3) ++ wX4 G g4) ++ wX6 G g6)) rfl ?_
  refine n_putF C hI (Cn := RX8) (T := TX8) (N := 8) (ci := 8) (k := 3) rfl (by decide) inX8 tyX8 tyX8_ok nmX8 fl_X8_33 rfl rfl rfl rfl rfl (Nat.le_of_ble_eq_true rfl) dX8_init_45 ?_
  refine n_ws (ws' := (h0, .inr (8, [.ref (g2 0), .ref (g3 0), .ref (g4 0), .ref (g6 0), .null, .null, .null, .null])) :: (((([] ++ wX2 G g2) ++ wX3 G g3) ++ wX4 G g4) ++ wX6 G g6)) rfl ?_
  refine n_aload_n C (pc := 48) dX8_init_48 0 rfl rfl ?_
  refine n_new C (Cn := RX1) (T := TX1) (N := 5) (ci := 1) (fs := [.null, .null, .null, .null, .int 0]) inX1 tyX1 tyX1_ok cl_X8_37 ib_X1 in_X1 rfl (by decide) (Nat.le_of_ble_eq_true rfl) (Nat.le_of_ble_eq_true rfl) dX8_init_49 (fun q1 => ?_)
  refine n_dup C dX8_init_52 rfl ?_
  refine n_callIN C (host := RX8) (fun l D => c_X1_init l D G q1) (by decide +kernel) co_X1_init im_X1_init in_X1 rfl (by decide +kernel) (Nat.le_of_ble_eq_true rfl) (Nat.le_of_ble_eq_true rfl) (Nat.le_of_ble_eq_true rfl) ⟨(Nat.le_of_ble_eq_true rfl), (Nat.le_of_ble_eq_true rfl)⟩ dX8_init_53 (fun g1 e => ?_)
  subst e
  refine n_ws (ws' := (h0, .inr (8, [.ref (g2 0), .ref (g3 0), .ref (g4 0), .ref (g6 0), .null, .null, .null, .null])) :: ((((([] ++ wX2 G g2) ++ wX3 G g3) ++ wX4 G g4) ++ wX6 G g6) ++ wX1 G g1)) rfl ?_
  refine n_putF C hI (Cn := RX8) (T := TX8) (N := 8) (ci := 8) (k := 4) rfl (by decide) inX8 tyX8 tyX8_ok nmX8 fl_X8_40 rfl rfl rfl rfl rfl (Nat.le_of_ble_eq_true rfl) dX8_init_56 ?_
  refine n_ws (ws' := (h0, .inr (8, [.ref (g2 0), .ref (g3 0), .ref (g4 0), .ref (g6 0), .ref (g1 0), .null, .null, .null])) :: ((((([] ++ wX2 G g2) ++ wX3 G g3) ++ wX4 G g4) ++ wX6 G g6) ++ wX1 G g1)) rfl ?_
  refine n_aload_n C (pc := 59) dX8_init_59 0 rfl rfl ?_
  refine n_new C (Cn := RX0) (T := TX0) (N := 4) (ci := 0) (fs := [.null, .null, .null, .int 0]) inX0 tyX0 tyX0_ok cl_X8_44 ib_X0 in_X0 rfl (by decide) (Nat.le_of_ble_eq_true rfl) (Nat.le_of_ble_eq_true rfl) dX8_init_60 (fun q0 => ?_)
  refine n_dup C dX8_init_63 rfl ?_
  refine n_callIN C (host := RX8) (fun l D => c_X0_init l D G q0) (by decide +kernel) co_X0_init im_X0_init in_X0 rfl (by decide +kernel) (Nat.le_of_ble_eq_true rfl) (Nat.le_of_ble_eq_true rfl) (Nat.le_of_ble_eq_true rfl) ⟨(Nat.le_of_ble_eq_true rfl), (Nat.le_of_ble_eq_true rfl)⟩ dX8_init_64 (fun g0 e => ?_)
  subst e
  refine n_ws (ws' := (h0, .inr (8, [.ref (g2 0), .ref (g3 0), .ref (g4 0), .ref (g6 0), .ref (g1 0), .null, .null, .null])) :: (((((([] ++ wX2 G g2) ++ wX3 G g3) ++ wX4 G g4) ++ wX6 G g6) ++ wX1 G g1) ++ wX0 G g0)) rfl ?_
  refine n_putF C hI (Cn := RX8) (T := TX8) (N := 8) (ci := 8) (k := 5) rfl (by decide) inX8 tyX8 tyX8_ok nmX8 fl_X8_47 rfl rfl rfl rfl rfl (Nat.le_of_ble_eq_true rfl) dX8_init_67 ?_
  refine n_ws (ws' := (h0, .inr (8, [.ref (g2 0), .ref (g3 0), .ref (g4 0), .ref (g6 0), .ref (g1 0), .ref (g0 0), .null, .null])) :: (((((([] ++ wX2 G g2) ++ wX3 G g3) ++ wX4 G g4) ++ wX6 G g6) ++ wX1 G g1) ++ wX0 G g0)) rfl ?_
  refine n_aload_n C (pc := 70) dX8_init_70 0 rfl rfl ?_
  refine n_new C (Cn := RX7) (T := TX7) (N := 11) (ci := 7) (fs := [.null, .null, .null, .null, .null, .null, .null, .int 0, .int 0, .int 0, .int 0]) inX7 tyX7 tyX7_ok cl_X8_51 ib_X7 in_X7 rfl (by decide) (Nat.le_of_ble_eq_true rfl) (Nat.le_of_ble_eq_true rfl) dX8_init_71 (fun q7 => ?_)
  refine n_dup C dX8_init_74 rfl ?_
  refine n_callI C (fun l D => c_X7_init l D G q7) ml_X8_53 co_X7_init im_X7_init in_X7 rfl (by decide +kernel) (Nat.le_of_ble_eq_true rfl) (Nat.le_of_ble_eq_true rfl) (Nat.le_of_ble_eq_true rfl) ⟨(Nat.le_of_ble_eq_true rfl), (Nat.le_of_ble_eq_true rfl)⟩ dX8_init_75 (fun g7 e => ?_)
  subst e
  refine n_ws (ws' := (h0, .inr (8, [.ref (g2 0), .ref (g3 0), .ref (g4 0), .ref (g6 0), .ref (g1 0), .ref (g0 0), .null, .null])) :: ((((((([] ++ wX2 G g2) ++ wX3 G g3) ++ wX4 G g4) ++ wX6 G g6) ++ wX1 G g1) ++ wX0 G g0) ++ wX7 G g7)) rfl ?_
  refine n_putF C hI (Cn := RX8) (T := TX8) (N := 8) (ci := 8) (k := 6) rfl (by decide) inX8 tyX8 tyX8_ok nmX8 fl_X8_54 rfl rfl rfl rfl rfl (Nat.le_of_ble_eq_true rfl) dX8_init_78 ?_
  refine n_ws (ws' := (h0, .inr (8, [.ref (g2 0), .ref (g3 0), .ref (g4 0), .ref (g6 0), .ref (g1 0), .ref (g0 0), .ref (g7 0), .null])) :: ((((((([] ++ wX2 G g2) ++ wX3 G g3) ++ wX4 G g4) ++ wX6 G g6) ++ wX1 G g1) ++ wX0 G g0) ++ wX7 G g7)) rfl ?_
  refine n_aload_n C (pc := 81) dX8_init_81 0 rfl rfl ?_
  refine n_new C (Cn := RX5) (T := TX5) (N := 4) (ci := 5) (fs := [.null, .int 0, .int 0, .int 0]) inX5 tyX5 tyX5_ok cl_X8_58 ib_X5 in_X5 rfl (by decide) (Nat.le_of_ble_eq_true rfl) (Nat.le_of_ble_eq_true rfl) dX8_init_82 (fun q5 => ?_)
  refine n_dup C dX8_init_85 rfl ?_
  refine n_callIN C (host := RX8) (fun l D => c_X5_init l D G q5) (by decide +kernel) co_X5_init im_X5_init in_X5 rfl (by decide +kernel) (Nat.le_of_ble_eq_true rfl) (Nat.le_of_ble_eq_true rfl) (Nat.le_of_ble_eq_true rfl) ⟨(Nat.le_of_ble_eq_true rfl), (Nat.le_of_ble_eq_true rfl)⟩ dX8_init_86 (fun g5 e => ?_)
  subst e
  refine n_ws (ws' := (h0, .inr (8, [.ref (g2 0), .ref (g3 0), .ref (g4 0), .ref (g6 0), .ref (g1 0), .ref (g0 0), .ref (g7 0), .null])) :: (((((((([] ++ wX2 G g2) ++ wX3 G g3) ++ wX4 G g4) ++ wX6 G g6) ++ wX1 G g1) ++ wX0 G g0) ++ wX7 G g7) ++ wX5 G g5)) rfl ?_
  refine n_putF C hI (Cn := RX8) (T := TX8) (N := 8) (ci := 8) (k := 7) rfl (by decide) inX8 tyX8 tyX8_ok nmX8 fl_X8_61 rfl rfl rfl rfl rfl (Nat.le_of_ble_eq_true rfl) dX8_init_89 ?_
  refine n_ws (ws' := (h0, .inr (8, [.ref (g2 0), .ref (g3 0), .ref (g4 0), .ref (g6 0), .ref (g1 0), .ref (g0 0), .ref (g7 0), .ref (g5 0)])) :: (((((((([] ++ wX2 G g2) ++ wX3 G g3) ++ wX4 G g4) ++ wX6 G g6) ++ wX1 G g1) ++ wX0 G g0) ++ wX7 G g7) ++ wX5 G g5)) rfl ?_
  obtain ⟨G0, hG0⟩ : ∃ G0 : Nat → Nat, G0 = (fun n => [h0, g2 0, g3 0, g4 0, g6 0, g1 0, g0 0, g7 0, g5 0, g2 1, g3 1, g3 2, g3 3, g3 4, g3 5, g3 6, g3 7, g3 8, g3 9, g3 10, g3 11, g4 1, g4 2, g6 1, g6 2, g6 3, g6 4, g6 5, g1 1, g1 2, g1 3, g1 4, g0 1, g0 2, g0 3, g7 1, g7 2, g7 3, g7 4, g7 5, g7 6, g7 7, g5 1, g4 3, g4 4, g4 5, g4 6, g1 5, g1 6, g1 7, g1 8, g1 9, g1 10, g1 11, g1 12, g1 13, g1 14, g1 15, g1 16, g1 17, g1 18, g1 19, g1 20].getD n 0) := ⟨_, rfl⟩
  refine n_oset 16 (fun i => some (G0 (43 + i))) (by subst hG0; exact (fun j hj => match j, hj with | 0, _ => rfl | 1, _ => rfl | 2, _ => rfl | 3, _ => rfl | n + 4, h => absurd h (by omega))) rfl ?_
  refine n_oset 31 (fun i => some (G0 (47 + i))) (by subst hG0; exact (fun j hj => match j, hj with | 0, _ => rfl | 1, _ => rfl | 2, _ => rfl | 3, _ => rfl | 4, _ => rfl | 5, _ => rfl | 6, _ => rfl | 7, _ => rfl | 8, _ => rfl | 9, _ => rfl | 10, _ => rfl | 11, _ => rfl | 12, _ => rfl | 13, _ => rfl | 14, _ => rfl | 15, _ => rfl | n + 16, h => absurd h (by omega))) rfl ?_
  exact ret G0 _ _ _ 92 _ [0, 1, 3, 15, 22, 28, 49, 53, 61, 2, 4, 5, 6, 7, 8, 9, 10, 11, 12, 13, 14, 16, 17, 23, 24, 25, 26, 27, 29, 30, 31, 32, 50, 51, 52, 54, 55, 56, 57, 58, 59, 60, 62, 18, 19, 20, 21, 33, 34, 35, 36, 37, 38, 39, 40, 41, 42, 43, 44, 45, 46, 47, 48] dX8_init_92 (by subst hG0; rfl) (Nat.le_of_ble_eq_true rfl) (Nat.le_of_ble_eq_true rfl) (by decide) (by subst hG0; rfl)
