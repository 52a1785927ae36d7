def relX (a : Nat) : Bool := !(a == 28 || a == 29 || a == 31 || a == 40 || a == 41 || (decide (43 ≤ a) && decide (a < 64)) || a == 111)
def relM (a : Nat) : Bool := !(a == 13 || a == 14 || a == 19 || a == 20 || a == 21 || a == 29 || a == 30 || a == 31 || a == 111)
theorem Rel_cg {k : Nat} {X M Y N : St} (hY : ∀ a, relX a = true → Y a = X a) (hN : ∀ a, relM a = true → N a = M a) (hS : IS Y N) (h : Rel k X M) : Rel k Y N := by
  obtain ⟨E, n, B, d, D, l, L, L2, W, P, hq, a2, a3, a4, a5, a6, a7, a8, a9, a10, a11⟩ := h
  refine ⟨E, n, B, d, D, l, L, L2, W, P, ?_, ?_, hS, ?_, ?_, ?_, ?_, ?_, ?_, ?_, ?_⟩
  · unfold RQ; simp only [hY 9 rfl, hY 10 rfl, hY 11 rfl, hY 12 rfl, hY 13 rfl, hY 14 rfl, hY 15 rfl, hY 16 rfl, hY 17 rfl, hY 18 rfl, hY 19 rfl, hY 20 rfl, hY 22 rfl, hY 23 rfl, hY 24 rfl, hY 25 rfl, hY 26 rfl, hY 27 rfl, hY 32 rfl, hY 33 rfl, hY 34 rfl, hY 35 rfl, hY 36 rfl, hY 37 rfl, hY 38 rfl, hY 39 rfl, hY 42 rfl, hY 100 rfl, hY 101 rfl, hY 102 rfl, hY 103 rfl, hY 104 rfl, hY 105 rfl, hY 106 rfl, hY 107 rfl, hY 108 rfl, hY 109 rfl, hY 110 rfl, hY 112 rfl, hY 113 rfl, hY 114 rfl, hY 115 rfl, hY 116 rfl, hY 117 rfl, hY 118 rfl, hY 119 rfl, hN 1 rfl, hN 2 rfl, hN 3 rfl, hN 4 rfl, hN 5 rfl, hN 6 rfl, hN 7 rfl, hN 8 rfl, hN 9 rfl, hN 10 rfl, hN 11 rfl, hN 12 rfl, hN 15 rfl, hN 16 rfl, hN 17 rfl, hN 18 rfl, hN 22 rfl, hN 23 rfl, hN 24 rfl, hN 25 rfl, hN 26 rfl, hN 27 rfl, hN 28 rfl, hN 32 rfl, hN 33 rfl, hN 100 rfl, hN 101 rfl, hN 102 rfl, hN 103 rfl, hN 104 rfl, hN 105 rfl, hN 106 rfl, hN 107 rfl, hN 108 rfl, hN 109 rfl, hN 110 rfl, hN 112 rfl, hN 113 rfl, hN 114 rfl, hN 115 rfl, hN 116 rfl, hN 117 rfl, hN 118 rfl]; exact hq
  · unfold IB; simp only [hY 9 rfl, hY 10 rfl, hY 11 rfl, hY 12 rfl, hY 13 rfl, hY 14 rfl, hY 15 rfl, hY 16 rfl, hY 17 rfl, hY 18 rfl, hY 19 rfl, hY 20 rfl, hY 22 rfl, hY 23 rfl, hY 24 rfl, hY 25 rfl, hY 26 rfl, hY 27 rfl, hY 32 rfl, hY 33 rfl, hY 34 rfl, hY 35 rfl, hY 36 rfl, hY 37 rfl, hY 38 rfl, hY 39 rfl, hY 42 rfl, hY 100 rfl, hY 101 rfl, hY 102 rfl, hY 103 rfl, hY 104 rfl, hY 105 rfl, hY 106 rfl, hY 107 rfl, hY 108 rfl, hY 109 rfl, hY 110 rfl, hY 112 rfl, hY 113 rfl, hY 114 rfl, hY 115 rfl, hY 116 rfl, hY 117 rfl, hY 118 rfl, hY 119 rfl]; exact a2
  · unfold IW; simp only [hY 9 rfl, hY 10 rfl, hY 11 rfl, hY 12 rfl, hY 13 rfl, hY 14 rfl, hY 15 rfl, hY 16 rfl, hY 17 rfl, hY 18 rfl, hY 19 rfl, hY 20 rfl, hY 22 rfl, hY 23 rfl, hY 24 rfl, hY 25 rfl, hY 26 rfl, hY 27 rfl, hY 32 rfl, hY 33 rfl, hY 34 rfl, hY 35 rfl, hY 36 rfl, hY 37 rfl, hY 38 rfl, hY 39 rfl, hY 42 rfl, hY 100 rfl, hY 101 rfl, hY 102 rfl, hY 103 rfl, hY 104 rfl, hY 105 rfl, hY 106 rfl, hY 107 rfl, hY 108 rfl, hY 109 rfl, hY 110 rfl, hY 112 rfl, hY 113 rfl, hY 114 rfl, hY 115 rfl, hY 116 rfl, hY 117 rfl, hY 118 rfl, hY 119 rfl]; exact a4
  · unfold IT; simp only [hY 9 rfl, hY 10 rfl, hY 11 rfl, hY 12 rfl, hY 13 rfl, hY 14 rfl, hY 15 rfl, hY 16 rfl, hY 17 rfl, hY 18 rfl, hY 19 rfl, hY 20 rfl, hY 22 rfl, hY 23 rfl, hY 24 rfl, hY 25 rfl, hY 26 rfl, hY 27 rfl, hY 32 rfl, hY 33 rfl, hY 34 rfl, hY 35 rfl, hY 36 rfl, hY 37 rfl, hY 38 rfl, hY 39 rfl, hY 42 rfl, hY 100 rfl, hY 101 rfl, hY 102 rfl, hY 103 rfl, hY 104 rfl, hY 105 rfl, hY 106 rfl, hY 107 rfl, hY 108 rfl, hY 109 rfl, hY 110 rfl, hY 112 rfl, hY 113 rfl, hY 114 rfl, hY 115 rfl, hY 116 rfl, hY 117 rfl, hY 118 rfl, hY 119 rfl]; exact a5
  · unfold IMt; simp only [hY 9 rfl, hY 10 rfl, hY 11 rfl, hY 12 rfl, hY 13 rfl, hY 14 rfl, hY 15 rfl, hY 16 rfl, hY 17 rfl, hY 18 rfl, hY 19 rfl, hY 20 rfl, hY 22 rfl, hY 23 rfl, hY 24 rfl, hY 25 rfl, hY 26 rfl, hY 27 rfl, hY 32 rfl, hY 33 rfl, hY 34 rfl, hY 35 rfl, hY 36 rfl, hY 37 rfl, hY 38 rfl, hY 39 rfl, hY 42 rfl, hY 100 rfl, hY 101 rfl, hY 102 rfl, hY 103 rfl, hY 104 rfl, hY 105 rfl, hY 106 rfl, hY 107 rfl, hY 108 rfl, hY 109 rfl, hY 110 rfl, hY 112 rfl, hY 113 rfl, hY 114 rfl, hY 115 rfl, hY 116 rfl, hY 117 rfl, hY 118 rfl, hY 119 rfl]; exact a6
  · unfold IC; simp only [hY 9 rfl, hY 10 rfl, hY 11 rfl, hY 12 rfl, hY 13 rfl, hY 14 rfl, hY 15 rfl, hY 16 rfl, hY 17 rfl, hY 18 rfl, hY 19 rfl, hY 20 rfl, hY 22 rfl, hY 23 rfl, hY 24 rfl, hY 25 rfl, hY 26 rfl, hY 27 rfl, hY 32 rfl, hY 33 rfl, hY 34 rfl, hY 35 rfl, hY 36 rfl, hY 37 rfl, hY 38 rfl, hY 39 rfl, hY 42 rfl, hY 100 rfl, hY 101 rfl, hY 102 rfl, hY 103 rfl, hY 104 rfl, hY 105 rfl, hY 106 rfl, hY 107 rfl, hY 108 rfl, hY 109 rfl, hY 110 rfl, hY 112 rfl, hY 113 rfl, hY 114 rfl, hY 115 rfl, hY 116 rfl, hY 117 rfl, hY 118 rfl, hY 119 rfl]; exact a7
  · unfold IRa; simp only [hY 9 rfl, hY 10 rfl, hY 11 rfl, hY 12 rfl, hY 13 rfl, hY 14 rfl, hY 15 rfl, hY 16 rfl, hY 17 rfl, hY 18 rfl, hY 19 rfl, hY 20 rfl, hY 22 rfl, hY 23 rfl, hY 24 rfl, hY 25 rfl, hY 26 rfl, hY 27 rfl, hY 32 rfl, hY 33 rfl, hY 34 rfl, hY 35 rfl, hY 36 rfl, hY 37 rfl, hY 38 rfl, hY 39 rfl, hY 42 rfl, hY 100 rfl, hY 101 rfl, hY 102 rfl, hY 103 rfl, hY 104 rfl, hY 105 rfl, hY 106 rfl, hY 107 rfl, hY 108 rfl, hY 109 rfl, hY 110 rfl, hY 112 rfl, hY 113 rfl, hY 114 rfl, hY 115 rfl, hY 116 rfl, hY 117 rfl, hY 118 rfl, hY 119 rfl, hN 1 rfl, hN 2 rfl, hN 3 rfl, hN 4 rfl, hN 5 rfl, hN 6 rfl, hN 7 rfl, hN 8 rfl, hN 9 rfl, hN 10 rfl, hN 11 rfl, hN 12 rfl, hN 15 rfl, hN 16 rfl, hN 17 rfl, hN 18 rfl, hN 22 rfl, hN 23 rfl, hN 24 rfl, hN 25 rfl, hN 26 rfl, hN 27 rfl, hN 28 rfl, hN 32 rfl, hN 33 rfl, hN 100 rfl, hN 101 rfl, hN 102 rfl, hN 103 rfl, hN 104 rfl, hN 105 rfl, hN 106 rfl, hN 107 rfl, hN 108 rfl, hN 109 rfl, hN 110 rfl, hN 112 rfl, hN 113 rfl, hN 114 rfl, hN 115 rfl, hN 116 rfl, hN 117 rfl, hN 118 rfl]; exact a8
  · unfold IRb; simp only [hY 9 rfl, hY 10 rfl, hY 11 rfl, hY 12 rfl, hY 13 rfl, hY 14 rfl, hY 15 rfl, hY 16 rfl, hY 17 rfl, hY 18 rfl, hY 19 rfl, hY 20 rfl, hY 22 rfl, hY 23 rfl, hY 24 rfl, hY 25 rfl, hY 26 rfl, hY 27 rfl, hY 32 rfl, hY 33 rfl, hY 34 rfl, hY 35 rfl, hY 36 rfl, hY 37 rfl, hY 38 rfl, hY 39 rfl, hY 42 rfl, hY 100 rfl, hY 101 rfl, hY 102 rfl, hY 103 rfl, hY 104 rfl, hY 105 rfl, hY 106 rfl, hY 107 rfl, hY 108 rfl, hY 109 rfl, hY 110 rfl, hY 112 rfl, hY 113 rfl, hY 114 rfl, hY 115 rfl, hY 116 rfl, hY 117 rfl, hY 118 rfl, hY 119 rfl]; exact a9
  · unfold IRc; simp only [hY 9 rfl, hY 10 rfl, hY 11 rfl, hY 12 rfl, hY 13 rfl, hY 14 rfl, hY 15 rfl, hY 16 rfl, hY 17 rfl, hY 18 rfl, hY 19 rfl, hY 20 rfl, hY 22 rfl, hY 23 rfl, hY 24 rfl, hY 25 rfl, hY 26 rfl, hY 27 rfl, hY 32 rfl, hY 33 rfl, hY 34 rfl, hY 35 rfl, hY 36 rfl, hY 37 rfl, hY 38 rfl, hY 39 rfl, hY 42 rfl, hY 100 rfl, hY 101 rfl, hY 102 rfl, hY 103 rfl, hY 104 rfl, hY 105 rfl, hY 106 rfl, hY 107 rfl, hY 108 rfl, hY 109 rfl, hY 110 rfl, hY 112 rfl, hY 113 rfl, hY 114 rfl, hY 115 rfl, hY 116 rfl, hY 117 rfl, hY 118 rfl, hY 119 rfl]; exact a10
  · unfold IP; simp only [hY 9 rfl, hY 10 rfl, hY 11 rfl, hY 12 rfl, hY 13 rfl, hY 14 rfl, hY 15 rfl, hY 16 rfl, hY 17 rfl, hY 18 rfl, hY 19 rfl, hY 20 rfl, hY 22 rfl, hY 23 rfl, hY 24 rfl, hY 25 rfl, hY 26 rfl, hY 27 rfl, hY 32 rfl, hY 33 rfl, hY 34 rfl, hY 35 rfl, hY 36 rfl, hY 37 rfl, hY 38 rfl, hY 39 rfl, hY 42 rfl, hY 100 rfl, hY 101 rfl, hY 102 rfl, hY 103 rfl, hY 104 rfl, hY 105 rfl, hY 106 rfl, hY 107 rfl, hY 108 rfl, hY 109 rfl, hY 110 rfl, hY 112 rfl, hY 113 rfl, hY 114 rfl, hY 115 rfl, hY 116 rfl, hY 117 rfl, hY 118 rfl, hY 119 rfl, hN 1 rfl, hN 2 rfl, hN 3 rfl, hN 4 rfl, hN 5 rfl, hN 6 rfl, hN 7 rfl, hN 8 rfl, hN 9 rfl, hN 10 rfl, hN 11 rfl, hN 12 rfl, hN 15 rfl, hN 16 rfl, hN 17 rfl, hN 18 rfl, hN 22 rfl, hN 23 rfl, hN 24 rfl, hN 25 rfl, hN 26 rfl, hN 27 rfl, hN 28 rfl, hN 32 rfl, hN 33 rfl, hN 100 rfl, hN 101 rfl, hN 102 rfl, hN 103 rfl, hN 104 rfl, hN 105 rfl, hN 106 rfl, hN 107 rfl, hN 108 rfl, hN 109 rfl, hN 110 rfl, hN 112 rfl, hN 113 rfl, hN 114 rfl, hN 115 rfl, hN 116 rfl, hN 117 rfl, hN 118 rfl]; exact a11
theorem relX_43 {a j : Nat} (h : relX a = true) (hj : j < 4) : a ≠ 43 + j := fun e => by
  subst e
  rcases (show j = 0 ∨ j = 1 ∨ j = 2 ∨ j = 3 by omega) with rfl | rfl | rfl | rfl <;> exact absurd h (by decide)
theorem sh_lt {s : Int32} (h : ¬ v_isSheet s = 0) : ∃ j, j < 4 ∧ s = nI j ∧ ix s = j := by
  have h1 := isSheet_in h
  exact ⟨ix s, in_ix h1, in_nI h1 (by decide), rfl⟩
theorem mis_eq {X M : St} (hq : RQ X M) (hS : IS X M) {s : Int32} (h : ¬ v_isSheet s = 0) : (v_X4_isMissing X s = 0) ↔ 0 ≤ (M 12) (ix s) := by
  obtain ⟨j, h1, h2, h3⟩ := sh_lt h
  unfold v_X4_isMissing
  rw [h3, ← rq_ssize hq]
  rcases hS.1 j h1 with e | ⟨z, hz, e⟩
  · rw [e, if_pos rfl]; decide
  · rw [e, if_neg (nI_neg1 (by omega))]; exact ⟨fun _ => nI_pos' (by omega), fun _ => rfl⟩
theorem mis_z {X : St} {M : St} (hS : IS X M) {s : Int32} (h : ¬ v_isSheet s = 0) (h0 : v_X4_isMissing X s = 0) : ∃ z, z ≤ 16 ∧ (X 22) (ix s) = nI z := by
  obtain ⟨j, h1, h2, h3⟩ := sh_lt h
  rcases hS.1 j h1 with e | ⟨z, hz, e⟩
  · exfalso
    unfold v_X4_isMissing at h0
    rw [h3, e, if_pos rfl] at h0
    exact absurd h0 (by decide)
  · exact ⟨z, hz, by rw [h3]; exact e⟩
theorem IS_size {X M : St} (hS : IS X M) (j : Nat) (v : Int32) (hv : v = (-1) ∨ ∃ z, z ≤ 16 ∧ v = nI z) : IS (ux X 22 j v) M := by
  refine ⟨fun i hi => ?_, hS.2.1, fun s i hs hi => ?_, hS.2.2.2.1, fun s hs => ?_⟩
  · show upd (X 22) j v i = (-1) ∨ ∃ z, z ≤ 16 ∧ upd (X 22) j v i = nI z
    by_cases e : i = j
    · subst e; rw [pk_us]; exact hv
    · rw [pk_un e]; exact hS.1 i hi
  · rw [show ux X 22 j v (43 + s) = X (43 + s) from sr_n X _ (by omega)]; exact hS.2.2.1 s i hs hi
  · rw [show ux X 22 j v (43 + s) = X (43 + s) from sr_n X _ (by omega)]; exact hS.2.2.2.2 s hs
theorem Rel_size {k : Nat} {X M : St} (h : Rel k X M) (j : Nat) (v : Int32) (hv : v = (-1) ∨ ∃ z, z ≤ 16 ∧ v = nI z) : Rel k (ux X 22 j v) (ux M 12 j v) := by
  obtain ⟨E, N, B, d, D, l, L, L2, W, P, hq, hB, hS, hW, hT, hMt, hC, hRa, hRb, hRc, hP⟩ := id h
  exact ⟨E, N, B, d, D, l, L, L2, W, P, (RQ_mk (@rq_latest X M hq) (@rq_times X M hq) (@rq_ever X M hq) (@rq_standing X M hq) (@rq_kind X M hq) (@rq_stable X M hq) (@rq_kin X M hq) (@rq_wins X M hq) (@rq_losses X M hq) (@rq_titles X M hq) (@rq_marks X M hq) (@rq_gone X M hq) (@rq_away X M hq) (@rq_board X M hq) (by show upd (X 22) j v = upd (M 12) j v; rw [rq_ssize hq]) (@rq_teller X M hq) (@rq_going X M hq) (@rq_days X M hq) (@rq_drawn X M hq) (@rq_bouts X M hq) (@rq_lacking X M hq) (@rq_cost X M hq) (@rq_satOut X M hq) (@rq_day X M hq) (@rq_upper X M hq) (@rq_lower X M hq) (@rq_winner X M hq) (@rq_lines X M hq) (@rq_low X M hq) (@rq_high X M hq) (@rq_up X M hq) (@rq_wtimes X M hq) (@rq_fresh X M hq) (@rq_linesThen X M hq) (@rq_former X M hq) (@rq_row X M hq) (@rq_begun X M hq) (@rq_holder X M hq)), hB, IS_cg (IS_size hS j v hv) rfl rfl (fun _ _ => rfl) rfl, hW, hT, hMt, hC, hRa, hRb, hRc, hP⟩
theorem byt_upd {f : Nat → Int32} (h : byt f) (k : Nat) (v : Int32) (hv : v.toInt8.toInt32 = v) : byt (upd f k v) := fun q => by
  by_cases e : q = k
  · subst e; rw [pk_us]; exact hv
  · rw [pk_un e]; exact h q
theorem nar_byt (v : Int32) : (vp_nar .byte v).toInt8.toInt32 = vp_nar .byte v := by
  rw [vp_nar_byte, Int8.toInt8_toInt32]
theorem sr_43 {X : St} {j s : Nat} (f : Nat → Int32) (h : s ≠ j) : sr X (43 + j) f (43 + s) = X (43 + s) := sr_n X f (by omega)
/-- a sheet's bytes written: the other rows stay -/
theorem Rel_bytes {k : Nat} {X M N : St} (h : Rel k X M) {j : Nat} (hj : j < 4) (f g : Nat → Int32) (hN : ∀ a, relM a = true → N a = M a) (h13 : N 13 = g) (hf : byt f) (hg : byt g) (h1 : ∀ i, i < 16 → f i = g (16 * j + i)) (h2 : ∀ s i, s < 4 → s ≠ j → i < 16 → g (16 * s + i) = (M 13) (16 * s + i)) : Rel k (sr X (43 + j) f) N := by
  obtain ⟨E, n, B, d, D, l, L, L2, W, P, hq, hB, hS, -⟩ := id h
  refine Rel_cg (fun a ha => sr_n X f (relX_43 ha hj)) hN ?_ h
  unfold IS
  rw [show sr X (43 + j) f 22 = X 22 from sr_n X f (by omega), show sr X (43 + j) f 103 = X 103 from sr_n X f (by omega), h13]
  refine ⟨hS.1, hS.2.1, fun s i hs hi => ?_, hg, fun s hs => ?_⟩
  · by_cases e : s = j
    · subst e; rw [sr_s]; exact h1 i hi
    · rw [sr_43 f e, h2 s i hs e hi]; exact hS.2.2.1 s i hs hi
  · by_cases e : s = j
    · subst e; rw [sr_s]; exact hf
    · rw [sr_43 f e]; exact hS.2.2.2.2 s hs
theorem law_tear {k : Nat} {X M : St} (h : Rel k X M) (s : Int32) (G H : Gx) : ∃ PX PM : Int32 → St → Prop, (∀ l D, Ci l yX8_tear cX8_tear 2 (some .int) 1 (xw G) D (tyG G) [.ref (G.1 0), .int s] X PX) ∧ (∀ l D, Ci l yX9_tear cX9_tear 2 (some .int) 2 (mw H) D (tyG H) [.ref (H.1 0), .int s] M PM) ∧ ∀ r X1 r2 M1, PX r X1 → PM r2 M1 → r = r2 ∧ Rel (k + 1) X1 M1 := by
  obtain ⟨E, N, B, d, D, l, L, L2, W, P, hq, hB, hS, hW, hT, hMt, hC, hRa, hRb, hRc, hP⟩ := id h
  refine ⟨_, _, fun l D => c_X8_tear l D G  X s , fun l D => c_X9_tear l D H  M s , mk2 (?_) (?_)⟩
  · unfold v_tear vM_tear
    rw [sht_eq]
    by_cases h1 : vin s 0 3 = 0
    · rw [if_pos h1, if_pos h1]
    · rw [if_neg h1, if_neg h1]
      have hm := mis_eq hq hS (s := s) (by rw [sht_eq]; exact h1)
      by_cases h2 : v_X4_isMissing X s = 0
      · rw [if_pos h2, if_pos (hm.mp h2)]
      · rw [if_neg h2, if_neg (fun q => h2 (hm.mpr q))]
  · unfold s_tear sM_tear
    rw [sht_eq]
    by_cases h1 : vin s 0 3 = 0
    · rw [if_pos h1, if_pos h1]; exact Rel_mono h
    · rw [if_neg h1, if_neg h1]
      have hm := mis_eq hq hS (s := s) (by rw [sht_eq]; exact h1)
      by_cases h2 : v_X4_isMissing X s = 0
      · rw [if_pos h2, if_pos (hm.mp h2)]; exact Rel_mono (Rel_size h _ _ (Or.inl rfl))
      · rw [if_neg h2, if_neg (fun q => h2 (hm.mpr q))]; exact Rel_found 1 h

theorem lay_ix {s i : Int32} {j t : Nat} (hs : s = nI j) (hi : i = nI t) (hj : j < 4) (ht : t < 16) : ix (16 * s + i) = 16 * j + t := by
  rw [ix16 hs hi, ix_nI (by omega)]
theorem lay_c {X M : St} (hq : RQ X M) {s i : Int32} {z : Nat} (hz : (X 22) (ix s) = nI z) (h16 : z ≤ 16) : vin i 0 ((M 12) (ix s) - 1) = 0 ↔ i < 0 ∨ ¬ i < (X 22) (ix s) := by
  rw [← rq_ssize hq, hz]; exact vin0 (by omega)
theorem lay_t {X : St} {s i : Int32} {z : Nat} (hz : (X 22) (ix s) = nI z) (h16 : z ≤ 16) (h1 : ¬ i < 0) (h2 : i < (X 22) (ix s)) : ∃ t, t < 16 ∧ i = nI t ∧ ix i = t := by
  have := in_lt2 h1 h2 hz h16 (by decide)
  exact ⟨ix i, in_ix this, in_nI this (by decide), rfl⟩
theorem law_lay {k : Nat} {X M : St} (h : Rel k X M) (s : Int32) (i : Int32) (v : Int32) (G H : Gx) : ∃ PX PM : Int32 → St → Prop, (∀ l D, Ci l yX8_lay cX8_lay 4 (some .int) 1 (xw G) D (tyG G) [.ref (G.1 0), .int s, .int i, .int v] X PX) ∧ (∀ l D, Ci l yX9_lay cX9_lay 5 (some .int) 2 (mw H) D (tyG H) [.ref (H.1 0), .int s, .int i, .int v] M PM) ∧ ∀ r X1 r2 M1, PX r X1 → PM r2 M1 → r = r2 ∧ Rel (k + 1) X1 M1 := by
  obtain ⟨E, N, B, d, D, l, L, L2, W, P, hq, hB, hS, hW, hT, hMt, hC, hRa, hRb, hRc, hP⟩ := id h
  refine ⟨_, _, fun l D => c_X8_lay l D G  X s i v hS.1, fun l D => c_X9_lay l D H  M s i v (rq_ssize hq ▸ hS.1), mk2 (?_) (?_)⟩
  · unfold v_lay vM_lay
    rw [sht_eq]
    by_cases h1 : vin s 0 3 = 0
    · rw [if_pos h1, if_pos h1]
    · rw [if_neg h1, if_neg h1]
      have hs : ¬ v_isSheet s = 0 := by rw [sht_eq]; exact h1
      have hm := mis_eq hq hS hs
      by_cases h2 : v_X4_isMissing X s = 0
      · rw [if_pos h2, if_pos (hm.mp h2)]
        obtain ⟨z, hz, ez⟩ := mis_z hS hs h2
        have hc := lay_c hq (i := i) ez hz
        by_cases h3 : i < 0
        · rw [if_pos h3, if_pos (hc.mpr (Or.inl h3))]
        · rw [if_neg h3]
          by_cases h4 : i < (X 22) (ix s)
          · rw [if_pos h4, if_neg (fun q => (hc.mp q).elim h3 (fun q => q h4))]
            obtain ⟨j, j1, j2, j3⟩ := sh_lt hs
            obtain ⟨t, t1, t2, t3⟩ := lay_t ez hz h3 h4
            rw [lay_ix j2 t2 j1 t1, j3, t3, hS.2.2.1 j t j1 t1]
          · rw [if_neg h4, if_pos (hc.mpr (Or.inr h4))]
      · rw [if_neg h2, if_neg (fun q => h2 (hm.mpr q))]
  · unfold s_lay sM_lay
    rw [sht_eq]
    by_cases h1 : vin s 0 3 = 0
    · rw [if_pos h1, if_pos h1]; exact Rel_mono h
    · rw [if_neg h1, if_neg h1]
      have hs : ¬ v_isSheet s = 0 := by rw [sht_eq]; exact h1
      have hm := mis_eq hq hS hs
      by_cases h2 : v_X4_isMissing X s = 0
      · rw [if_pos h2, if_pos (hm.mp h2)]
        obtain ⟨z, hz, ez⟩ := mis_z hS hs h2
        have hc := lay_c hq (i := i) ez hz
        by_cases h3 : i < 0
        · rw [if_pos h3, if_pos (hc.mpr (Or.inl h3))]; exact Rel_found 2 h
        · rw [if_neg h3]
          by_cases h4 : i < (X 22) (ix s)
          · rw [if_pos h4, if_neg (fun q => (hc.mp q).elim h3 (fun q => q h4))]
            obtain ⟨j, j1, j2, j3⟩ := sh_lt hs
            obtain ⟨t, t1, t2, t3⟩ := lay_t ez hz h3 h4
            unfold s_X4_replace
            rw [lay_ix j2 t2 j1 t1, j3, t3]
            refine Rel_mono (Rel_bytes h j1 _ (upd (M 13) (16 * j + t) (vp_nar .byte v.toInt8.toInt32)) (fun a ha => ?_) rfl (byt_upd (hS.2.2.2.2 j j1) _ _ (nar_byt _)) (byt_upd hS.2.2.2.1 _ _ (nar_byt _)) (fun i2 hi2 => ?_) (fun s2 i2 hs2 hne hi2 => ?_))
            · exact sr_n M _ (fun e => by subst e; exact absurd ha (by decide))
            · by_cases e : i2 = t
              · subst e; rw [pk_us, pk_us]
              · rw [pk_un e, pk_un (by omega)]; exact hS.2.2.1 j i2 j1 hi2
            · exact pk_un (by omega)
          · rw [if_neg h4, if_pos (hc.mpr (Or.inr h4))]; exact Rel_found 2 h
      · rw [if_neg h2, if_neg (fun q => h2 (hm.mpr q))]; exact Rel_found 1 h

theorem law_sheet {k : Nat} {X M : St} (h : Rel k X M) (s : Int32) (n : Int32) (G H : Gx) : ∃ PX PM : Int32 → St → Prop, (∀ l D, Ci l yX8_sheet cX8_sheet 3 (some .int) 2 (xw G) D (tyG G) [.ref (G.1 0), .int s, .int n] X PX) ∧ (∀ l D, Ci l yX9_sheet cX9_sheet 4 (some .int) 2 (mw H) D (tyG H) [.ref (H.1 0), .int s, .int n] M PM) ∧ ∀ r X1 r2 M1, PX r X1 → PM r2 M1 → r = r2 ∧ Rel (k + 1) X1 M1 := by
  obtain ⟨E, N, B, d, D, l, L, L2, W, P, hq, hB, hS, hW, hT, hMt, hC, hRa, hRb, hRc, hP⟩ := id h
  refine ⟨_, _, fun l D => c_X8_sheet l D G  X s n , fun l D => c_X9_sheet l D H  M s n , mk2 (?_) (?_)⟩
  · unfold v_sheet vM_sheet
    rw [sht_eq]
  · unfold s_sheet sM_sheet
    rw [sht_eq]
    by_cases h1 : vin s 0 3 = 0
    · rw [if_pos h1, if_pos h1]; exact Rel_mono h
    · rw [if_neg h1, if_neg h1]
      have hs : ¬ v_isSheet s = 0 := by rw [sht_eq]; exact h1
      by_cases h2 : n ≤ 16
      · rw [if_pos h2, if_pos h2]
        by_cases h3 : 0 ≤ n
        · rw [if_pos h3, if_pos h3]
          obtain ⟨j, j1, j2, j3⟩ := sh_lt hs
          obtain ⟨z, z1, z2⟩ := nI_of2 (M := 16) (n := 16) (by decide) (Int32.not_lt.mpr h3) h2
          have hr := Rel_size h j n (Or.inr ⟨z, z1, z2⟩)
          have e1 : s_X4_blank X s n = sr (ux X 22 j n) (43 + j) (fun i => if i < 16 then vp_nar .byte 0 else X (43 + j) i) := by
            unfold s_X4_blank
            rw [j3]
            unfold ux
            rw [sr_comm X _ _ (show (43 + j) ≠ 22 by omega), sr_n X _ (show 22 ≠ 43 + j by omega)]
          rw [e1, j3]
          have h0 : (vp_nar .byte 0 : Int32) = 0 := by decide
          refine Rel_mono (Rel_bytes hr j1 _ (shZ (M 13) j 16) (fun a ha => ?_) rfl (fun q => ?_) (fun q => ?_) (fun i2 hi2 => ?_) (fun s2 i2 hs2 hne hi2 => ?_))
          · exact sr_n _ _ (fun e => by subst e; exact absurd ha (by decide))
          · show (if q < 16 then vp_nar .byte 0 else X (43 + j) q).toInt8.toInt32 = (if q < 16 then vp_nar .byte 0 else X (43 + j) q)
            by_cases e : q < 16
            · rw [if_pos e]; exact nar_byt _
            · rw [if_neg e]; exact hS.2.2.2.2 j j1 q
          · show (if 16 * j ≤ q ∧ q < 16 * j + 16 then 0 else M 13 q).toInt8.toInt32 = (if 16 * j ≤ q ∧ q < 16 * j + 16 then 0 else M 13 q)
            by_cases e : 16 * j ≤ q ∧ q < 16 * j + 16
            · rw [if_pos e]; decide
            · rw [if_neg e]; exact hS.2.2.2.1 q
          · show (if i2 < 16 then vp_nar .byte 0 else X (43 + j) i2) = (if 16 * j ≤ 16 * j + i2 ∧ 16 * j + i2 < 16 * j + 16 then 0 else M 13 (16 * j + i2))
            rw [if_pos hi2, if_pos (by omega), h0]
          · show (if 16 * j ≤ 16 * s2 + i2 ∧ 16 * s2 + i2 < 16 * j + 16 then 0 else M 13 (16 * s2 + i2)) = M 13 (16 * s2 + i2)
            rw [if_neg (by omega)]
        · rw [if_neg h3, if_neg h3]; exact Rel_found 5 h
      · rw [if_neg h2, if_neg h2]; exact Rel_mono h

theorem holds_i {X : St} {s f n : Int32} {z : Nat} (hz : (X 22) (ix s) = nI z) (h16 : z ≤ 16) : (¬ v_X4_holds X s f n = 0) ↔ ¬ f < 0 ∧ ¬ n < 0 ∧ ix f + ix n ≤ z := by
  constructor
  · intro h
    obtain ⟨h1, h2, h3, h4⟩ := holds_f h
    obtain ⟨a, a1, a2⟩ := nI_of h1
    obtain ⟨b, b1, b2⟩ := nI_of h2
    refine ⟨h1, h2, ?_⟩
    rw [hz, b2] at h3
    have hbz : b ≤ z := by
      rcases Nat.lt_or_ge z b with q | q
      · exact absurd (nI_lt q b1) h3
      · exact q
    rw [hz, b2, a2] at h4
    have e : nI z - nI b = nI (z - b) := by
      rw [show nI z = nI (z - b) + nI b by rw [nI_add]; congr 1; omega, Int32.add_sub_cancel]
    rw [e] at h4
    have : a ≤ z - b := by
      rcases Nat.lt_or_ge (z - b) a with q | q
      · exact absurd (nI_lt q a1) h4
      · exact q
    rw [a2, b2, ix_nI a1, ix_nI b1]; omega
  · rintro ⟨h1, h2, h3⟩
    obtain ⟨a, a1, a2⟩ := nI_of h1
    obtain ⟨b, b1, b2⟩ := nI_of h2
    rw [a2, b2, ix_nI a1, ix_nI b1] at h3
    unfold v_X4_holds
    have e : nI z - nI b = nI (z - b) := by
      rw [show nI z = nI (z - b) + nI b by rw [nI_add]; congr 1; omega, Int32.add_sub_cancel]
    rw [if_neg h1, if_neg h2, hz, b2, if_neg (nI_nlt (by omega) (by omega)), a2, e, if_neg (nI_nlt (by omega) (by omega))]
    decide
theorem lc_i {M : St} {s i n : Int32} {a b z : Nat} (hi : i = nI a) (hn : n = nI b) (ha : a < 2 ^ 31) (hb : b < 2 ^ 31) (hz : (M 12) (ix s) = nI z) (h16 : z ≤ 16) : 0 < lc1 M s i n ↔ ¬ a + b ≤ z := by
  refine ⟨fun h q => ?_, fun h => Decidable.byContradiction (fun q => h (lc_le hi hn ha hb hz h16 q))⟩
  unfold lc1 at h
  rw [hi, hn, hz, nI_l ha, nI_l hb, nI_l (by omega), lN_add] at h
  unfold lg_cmp at h
  rw [if_neg (fun c => absurd ((pk_lLT (by omega) (by omega)).mp c) (by omega))] at h
  revert h
  by_cases c : lN (a + b) = lN z
  · rw [if_pos c]; decide
  · rw [if_neg c]; decide