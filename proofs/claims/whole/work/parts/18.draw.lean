
/-- the rows that the fitting alone uses -/
def isF (a : Nat) : Bool := a == 28 || a == 29 || a == 31 || a == 111 || (decide (47 ≤ a) && decide (a < 64))
theorem isF_43 {k : Nat} (h : k < 4) : isF (43 + k) = false := by
  rcases (show k = 0 ∨ k = 1 ∨ k = 2 ∨ k = 3 by omega) with rfl | rfl | rfl | rfl <;> rfl
theorem isF_no {a : Nat} (h : isF a = false) : a ≠ 28 ∧ a ≠ 29 ∧ a ≠ 31 ∧ a ≠ 111 ∧ (a < 47 ∨ 64 ≤ a) := by
  unfold isF at h
  simp only [Bool.or_eq_false_iff, beq_eq_false_iff_ne, Bool.and_eq_false_iff, decide_eq_false_iff_not] at h
  omega
theorem chg_agrF {X Y : St} (h : ∀ a, isF a = false → X a = Y a) (ht : (X 103 0) ≠ (-9) → vp_in (X 103 0) 4) (a b : Int32) : v_chg X a b = v_chg Y a b := by
  have h4 : (X 103 0) ≠ (-9) → X (43 + ix (X 103 0)) = Y (43 + ix (X 103 0)) := fun q => h _ (isF_43 (in_ix (ht q)))
  have e : v_bars X a b = v_bars Y a b := by
    unfold v_bars bars2 bars1 v_X6_haveMet
    rw [h 11 rfl, h 12 rfl, h 104 rfl, h 27 rfl]
  unfold v_chg
  rw [e, h 14 rfl, h 13 rfl]
  unfold v_X4_priceOf
  by_cases q : (X 103 0) = (-9)
  · have q2 : (Y 103 0) = (-9) := by rw [← h 103 rfl]; exact q
    rw [if_pos q, if_pos q2]
  · have q2 : ¬ (Y 103 0) = (-9) := by rw [← h 103 rfl]; exact q
    rw [if_neg q, if_neg q2, h4 q, h 22 rfl, h 103 rfl]
def whX (X : St) (N : Nat) : Nat → Int32 := plR (X 19) (X 20) 0 (X 28) N
def nX (X : St) (N : Nat) : Nat := plC (X 19) (X 20) 0 N
def cX (X : St) (N : Nat) : Nat → Nat → Option Nat := fun p q => if v_chg X (whX X N p) (whX X N q) = (-1) then none else some (ix (v_chg X (whX X N p) (whX X N q)))
def scA (X : St) (N : Nat) : St := scP (gt1 X N) (nX X N) (nX X N) (nX X N + 1)
theorem gt1_agr (X : St) (N : Nat) (a : Nat) (h : isF a = false) : X a = gt1 X N a := by
  have := isF_no h
  unfold gt1
  rw [ux_ne _ _ _ this.2.2.2.1, sr_n _ _ this.1]
theorem scA_agr (X : St) (N : Nat) (hN : N ≤ 16) (a : Nat) (h : isF a = false) : X a = scA X N a := by
  have h2 := isF_no h
  have hn : nX X N ≤ 16 := Nat.le_trans (plC_le _ _ _ _) hN
  unfold scA
  rcases h2.2.2.2.2 with h3 | h3
  · rw [scP_row _ _ _ _ h3]; exact gt1_agr X N a h
  · rw [scP_row2 _ _ _ _ (by omega)]; exact gt1_agr X N a h
theorem scA_who (X : St) (N : Nat) : scA X N 28 = whX X N := by
  unfold scA
  rw [scP_row _ _ _ _ (by decide)]
  rfl
theorem FCH_draw {X : St} {N : Nat} (hN : N ≤ 16) (ht : (X 103 0) ≠ (-9) → vp_in (X 103 0) 4) (hch : ∀ p q, p < q → q < nX X N → v_chg X (whX X N p) (whX X N q) = (-1) ∨ ∃ w, w ≤ 2000000 ∧ v_chg X (whX X N p) (whX X N q) = nI w) : FCH (cX X N) (nX X N) (scA X N) := by
  have hn : nX X N ≤ 16 := Nat.le_trans (plC_le _ _ _ _) hN
  refine ⟨hn, ?_, fun p q hp hq => ?_⟩
  · unfold scA
    rw [scP_row2 _ _ _ _ (by omega)]
    rfl
  · have e : scA X N (47 + p) q = v_chg X (whX X N p) (whX X N q) := by
      unfold scA
      rw [scP_at (by omega) hp hq]
      exact (chg_agrF (gt1_agr X N) ht _ _).symm
    rw [e]
    unfold cX
    rcases hch p q hp hq with h | ⟨w, h1, h2⟩
    · exact Or.inl ⟨if_pos h, h⟩
    · exact Or.inr ⟨w, by rw [if_neg (by rw [h2]; exact nI_neg1 (by omega)), h2, ix_nI (by omega)], h1, h2⟩
def v_draw (X : St) (N : Nat) : Int32 := if (X 104 0) = 0 then (-4) else if 0 < (X 108 0) then (-4) else if (X 106 0) < (X 105 0) then nI (cE (cX X N) (nX X N) (nX X N)) else (-4)
def goD (X : St) : Prop := ¬ (X 104 0) = 0 ∧ ¬ 0 < (X 108 0) ∧ (X 106 0) < (X 105 0)
def p_draw (X : St) (N : Nat) (X1 : St) : Prop := (¬ goD X ∧ X1 = X) ∨ (goD X ∧ ∃ Z, (∀ a, isF a = false → Z a = ux X 109 0 (nI (lpc (cX X N) (nX X N) (nX X N) (fun _ => true))) a) ∧ X1 = s_enter (cX X N) (nX X N) N (whX X N) Z)
theorem mt0_9 (X : St) {n : Nat} (hn : n ≤ 16) (c : Nat → Nat → Option Nat) : MTok c n (mT c n (mt0 X) n) := by
  intro p hp
  obtain ⟨h1, h2⟩ := (mT_inv (c := c) (n := n) (b := mt0 X) n (Nat.le_refl _)).1 p hp
  refine ⟨fun h => ⟨fun h3 => ?_, (h1 h).2⟩, h2⟩
  rw [(h1 h).1 h3]
  unfold mt0
  rw [if_pos (by omega)]
set_option maxHeartbeats 4000000 in
set_option maxRecDepth 100000 in
theorem c_X8_draw (l : Launch) (D : va_G) (G : Gx) (N B : Nat) (X : St)  (hS : (X 102 0) = nI N) (hN16 : N ≤ 16) (hB : ∀ r, r < N → vp_in ((X 20) r) 16) (hBt : (X 107 0) = nI B) (hB112 : goD X → B + 8 ≤ 120) (ht : (X 103 0) ≠ (-9) → vp_in (X 103 0) 4) (hZ : ∀ j, j < 4 → (X 22) j = (-1) ∨ ∃ z, z ≤ 16 ∧ (X 22) j = nI z) (hk : ∀ p q, p < q → q < nX X N → ∃ k, k < 2 ^ 31 ∧ v_abs ((X 14) (ix (whX X N p)) - (X 14) (ix (whX X N q))) = nI k) (hch : ∀ p q, p < q → q < nX X N → v_chg X (whX X N p) (whX X N q) = (-1) ∨ ∃ w, w ≤ 2000000 ∧ v_chg X (whX X N p) (whX X N q) = nI w) : Ci l yX8_draw cX8_draw 1 (some .int) 20 (xw G) D (tyG G) [.ref (G.1 0)] X (fun r X1 => r = v_draw X N ∧ p_draw X N X1) := by
  refine m_i (nL := 1) (lv := [(0, .ref (G.1 0))]) [.ref (G.1 0)] RX8 rfl (xw_adr G) (by decide +kernel) (Nat.le_of_ble_eq_true rfl) rfl (fun K C ret => ?_)
  refine x_aload_n C (pc := 0) dX8_draw_0 0 rfl rfl ?_
  refine xG_tourney C fl_X8_33 dX8_draw_1 ?_
  refine xG_going C fl_X8_76 dX8_draw_4 ?_
  refine x_if_eq C (pc := 7) (tgt := 37) dX8_draw_7 (by decide) (fun c7 => ?_) (fun c7 => ?_)
  · refine x_bipush C (pc := 37) (v := (-4)) dX8_draw_37 (by decide) ?_
    exact ret (-4) X 39 _ dX8_draw_39 ⟨by unfold v_draw; rw [if_pos c7], Or.inl ⟨fun h => h.1 c7, rfl⟩⟩
  · refine x_aload_n C (pc := 10) dX8_draw_10 0 rfl rfl ?_
    refine xG_tourney C fl_X8_33 dX8_draw_11 ?_
    refine xG_lacking C fl_X8_181 dX8_draw_14 ?_
    refine x_if_gt C (pc := 17) (tgt := 37) dX8_draw_17 (by decide) (fun c17 => ?_) (fun c17 => ?_)
    · refine x_bipush C (pc := 37) (v := (-4)) dX8_draw_37 (by decide) ?_
      exact ret (-4) X 39 _ dX8_draw_39 ⟨by unfold v_draw; rw [if_neg c7, if_pos c17], Or.inl ⟨fun h => h.2.1 c17, rfl⟩⟩
    · refine x_aload_n C (pc := 20) dX8_draw_20 0 rfl rfl ?_
      refine xG_tourney C fl_X8_33 dX8_draw_21 ?_
      refine xG_drawn C fl_X8_184 dX8_draw_24 ?_
      refine x_aload_n C (pc := 27) dX8_draw_27 0 rfl rfl ?_
      refine xG_tourney C fl_X8_33 dX8_draw_28 ?_
      refine xG_days C fl_X8_187 dX8_draw_31 ?_
      refine x_icmp_lt C (pc := 34) (tgt := 40) dX8_draw_34 (by decide) (fun c34 => ?_) (fun c34 => ?_)
      · have hgo : goD X := ⟨c7, c17, c34⟩
        have hn : nX X N ≤ 16 := Nat.le_trans (plC_le _ _ _ _) hN16
        have hwh : ∀ p, p < nX X N → vp_in (whX X N p) 16 := plR_in N hB
        have hFC := FCH_draw hN16 ht hch
        refine x_aload_n C (pc := 40) dX8_draw_40 0 rfl rfl ?_
        refine x_callVv C (pc := 41) [] (fun l D => c_X8_gatherThosePresent l D G N X hS hN16 hB) (xe_0 G _) rfl ml_X8_190 co_X8_gatherThosePresent im_X8_gatherThosePresent se_X8_gatherThosePresent in_X8 hy_X8_gatherThosePresent (by decide) (by decide) (Nat.le_of_ble_eq_true rfl) dX8_draw_41 rfl (kxv ?_)
        refine x_aload_n C (pc := 44) dX8_draw_44 0 rfl rfl ?_
        refine x_callVv C (pc := 45) [] (fun l D => c_X8_setCharges l D G (nX X N) (gt1 X N) hn rfl hwh ht hZ hk) (xe_0 G _) rfl ml_X8_193 co_X8_setCharges im_X8_setCharges se_X8_setCharges in_X8 hy_X8_setCharges (by decide) (by decide) (Nat.le_of_ble_eq_true rfl) dX8_draw_45 rfl (kxv ?_)
        refine x_eqX (X' := (scA X N)) rfl ?_
        refine x_aload_n C (pc := 48) dX8_draw_48 0 rfl rfl ?_
        refine xG_tourney C fl_X8_33 dX8_draw_49 ?_
        refine x_aload_n C (pc := 52) dX8_draw_52 0 rfl rfl ?_
        refine xG_fitting C fl_X8_40 dX8_draw_53 ?_
        refine x_callVi C (pc := 56) [] (fun l D => c_X1_solve l D G (cX X N) (nX X N) (scA X N) hFC) (xe_5 G _) rfl ml_X8_196 co_X1_solve im_X1_solve se_X1_solve in_X1 hy_X1_solve (by decide) (by decide) (Nat.le_of_ble_eq_true rfl) dX8_draw_56 rfl (fun r56 X56 h56 => ?_)
        obtain ⟨hr56, g56, hX56⟩ := h56
        have hZr : ∀ a, isF a = false → X56 a = X a := fun a h => by
          have h2 := isF_no h
          rw [hX56, sr_n _ _ h2.2.1, sr_n _ _ h2.2.2.1]
          exact (scA_agr X N hN16 a h).symm
        have hX5w : X56 28 = whX X N := by rw [hX56]; exact scA_who X N
        have hX5f : X56 111 0 = nI (nX X N) := by rw [hX56]; exact hFC.2.1
        have hX5m : X56 29 = mT (cX X N) (nX X N) (mt0 (scA X N)) (nX X N) := by rw [hX56]; rfl
        refine xP_cost C fl_X8_200 (v := r56) dX8_draw_59 ?_
        refine x_aload_n C (pc := 62) dX8_draw_62 0 rfl rfl ?_
        refine x_callVi C (pc := 63) [] (fun l D => c_X8_enterDay l D G (cX X N) (nX X N) N B (ux X56 109 0 r56) hn hX5f (by show MTok _ _ (X56 29); rw [hX5m]; exact mt0_9 _ hn _) (by show ∀ p, p < nX X N → vp_in (X56 28 p) 16; rw [hX5w]; exact hwh) (by show X56 107 0 = _; rw [hZr _ rfl]; exact hBt) (hB112 hgo) (by show X56 102 0 = _; rw [hZr _ rfl]; exact hS) hN16 (by show ∀ r, r < N → vp_in (X56 20 r) 16; rw [hZr _ rfl]; exact hB)) (xe_0 G _) rfl ml_X8_203 co_X8_enterDay im_X8_enterDay se_X8_enterDay in_X8 hy_X8_enterDay (by decide) (by decide) (Nat.le_of_ble_eq_true rfl) dX8_draw_63 rfl (kx ?_)
        have e66 : ux X56 109 0 r56 29 = mT (cX X N) (nX X N) (mt0 (scA X N)) (nX X N) := by rw [hX56]; rfl
        exact ret (nI (cE (cX X N) (nX X N) (nX X N))) (s_enter (cX X N) (nX X N) N ((ux X56 109 0 r56) 28) (ux X56 109 0 r56)) 66 _ dX8_draw_66 ⟨by unfold v_draw; rw [if_neg c7, if_neg c17, if_pos c34], Or.inr ⟨hgo, ux X56 109 0 r56, fun a h => (by
          by_cases e : a = 109
          · rw [e, ux_s, ux_s, hr56, hZr _ rfl]
          · rw [ux_ne _ _ _ e, ux_ne _ _ _ e]; exact hZr a h), by show s_enter _ _ N (X56 28) _ = _; rw [hX5w]⟩⟩
      · refine x_bipush C (pc := 37) (v := (-4)) dX8_draw_37 (by decide) ?_
        exact ret (-4) X 39 _ dX8_draw_39 ⟨by unfold v_draw; rw [if_neg c7, if_neg c17, if_neg c34], Or.inl ⟨fun h => c34 h.2.2, rfl⟩⟩
