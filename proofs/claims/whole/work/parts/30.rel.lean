def RQ (X M : St) : Prop := X 100 = M 100 ∧ X 9 = M 1 ∧ X 101 = M 101 ∧ X 102 = M 102 ∧ X 10 = M 2 ∧ X 11 = M 3 ∧ X 12 = M 4 ∧ X 14 = M 7 ∧ X 15 = M 8 ∧ X 16 = M 9 ∧ X 17 = M 10 ∧ X 18 = M 5 ∧ X 19 = M 6 ∧ X 20 = M 11 ∧ X 22 = M 12 ∧ X 103 = M 104 ∧ X 104 = M 103 ∧ X 105 = M 105 ∧ X 106 = M 106 ∧ X 107 = M 107 ∧ X 108 = M 108 ∧ X 109 = M 109 ∧ X 110 = M 110 ∧ X 23 = M 15 ∧ X 24 = M 16 ∧ X 25 = M 17 ∧ X 26 = M 18 ∧ X 112 = M 112 ∧ X 32 = M 22 ∧ X 33 = M 23 ∧ X 34 = M 24 ∧ X 115 = M 113 ∧ X 116 = M 114 ∧ X 114 = M 115 ∧ X 35 = M 32 ∧ X 42 = M 33 ∧ X 118 = M 116 ∧ X 119 = M 118
theorem RQ_mk {X M : St} (h0 : X 100 = M 100) (h1 : X 9 = M 1) (h2 : X 101 = M 101) (h3 : X 102 = M 102) (h4 : X 10 = M 2) (h5 : X 11 = M 3) (h6 : X 12 = M 4) (h7 : X 14 = M 7) (h8 : X 15 = M 8) (h9 : X 16 = M 9) (h10 : X 17 = M 10) (h11 : X 18 = M 5) (h12 : X 19 = M 6) (h13 : X 20 = M 11) (h14 : X 22 = M 12) (h15 : X 103 = M 104) (h16 : X 104 = M 103) (h17 : X 105 = M 105) (h18 : X 106 = M 106) (h19 : X 107 = M 107) (h20 : X 108 = M 108) (h21 : X 109 = M 109) (h22 : X 110 = M 110) (h23 : X 23 = M 15) (h24 : X 24 = M 16) (h25 : X 25 = M 17) (h26 : X 26 = M 18) (h27 : X 112 = M 112) (h28 : X 32 = M 22) (h29 : X 33 = M 23) (h30 : X 34 = M 24) (h31 : X 115 = M 113) (h32 : X 116 = M 114) (h33 : X 114 = M 115) (h34 : X 35 = M 32) (h35 : X 42 = M 33) (h36 : X 118 = M 116) (h37 : X 119 = M 118) : RQ X M := ⟨h0, h1, h2, h3, h4, h5, h6, h7, h8, h9, h10, h11, h12, h13, h14, h15, h16, h17, h18, h19, h20, h21, h22, h23, h24, h25, h26, h27, h28, h29, h30, h31, h32, h33, h34, h35, h36, h37⟩
theorem rq_latest {X M : St} (h : RQ X M) : X 100 = M 100 := h.1
theorem rq_times {X M : St} (h : RQ X M) : X 9 = M 1 := h.2.1
theorem rq_ever {X M : St} (h : RQ X M) : X 101 = M 101 := h.2.2.1
theorem rq_standing {X M : St} (h : RQ X M) : X 102 = M 102 := h.2.2.2.1
theorem rq_kind {X M : St} (h : RQ X M) : X 10 = M 2 := h.2.2.2.2.1
theorem rq_stable {X M : St} (h : RQ X M) : X 11 = M 3 := h.2.2.2.2.2.1
theorem rq_kin {X M : St} (h : RQ X M) : X 12 = M 4 := h.2.2.2.2.2.2.1
theorem rq_wins {X M : St} (h : RQ X M) : X 14 = M 7 := h.2.2.2.2.2.2.2.1
theorem rq_losses {X M : St} (h : RQ X M) : X 15 = M 8 := h.2.2.2.2.2.2.2.2.1
theorem rq_titles {X M : St} (h : RQ X M) : X 16 = M 9 := h.2.2.2.2.2.2.2.2.2.1
theorem rq_marks {X M : St} (h : RQ X M) : X 17 = M 10 := h.2.2.2.2.2.2.2.2.2.2.1
theorem rq_gone {X M : St} (h : RQ X M) : X 18 = M 5 := h.2.2.2.2.2.2.2.2.2.2.2.1
theorem rq_away {X M : St} (h : RQ X M) : X 19 = M 6 := h.2.2.2.2.2.2.2.2.2.2.2.2.1
theorem rq_board {X M : St} (h : RQ X M) : X 20 = M 11 := h.2.2.2.2.2.2.2.2.2.2.2.2.2.1
theorem rq_ssize {X M : St} (h : RQ X M) : X 22 = M 12 := h.2.2.2.2.2.2.2.2.2.2.2.2.2.2.1
theorem rq_teller {X M : St} (h : RQ X M) : X 103 = M 104 := h.2.2.2.2.2.2.2.2.2.2.2.2.2.2.2.1
theorem rq_going {X M : St} (h : RQ X M) : X 104 = M 103 := h.2.2.2.2.2.2.2.2.2.2.2.2.2.2.2.2.1
theorem rq_days {X M : St} (h : RQ X M) : X 105 = M 105 := h.2.2.2.2.2.2.2.2.2.2.2.2.2.2.2.2.2.1
theorem rq_drawn {X M : St} (h : RQ X M) : X 106 = M 106 := h.2.2.2.2.2.2.2.2.2.2.2.2.2.2.2.2.2.2.1
theorem rq_bouts {X M : St} (h : RQ X M) : X 107 = M 107 := h.2.2.2.2.2.2.2.2.2.2.2.2.2.2.2.2.2.2.2.1
theorem rq_lacking {X M : St} (h : RQ X M) : X 108 = M 108 := h.2.2.2.2.2.2.2.2.2.2.2.2.2.2.2.2.2.2.2.2.1
theorem rq_cost {X M : St} (h : RQ X M) : X 109 = M 109 := h.2.2.2.2.2.2.2.2.2.2.2.2.2.2.2.2.2.2.2.2.2.1
theorem rq_satOut {X M : St} (h : RQ X M) : X 110 = M 110 := h.2.2.2.2.2.2.2.2.2.2.2.2.2.2.2.2.2.2.2.2.2.2.1
theorem rq_day {X M : St} (h : RQ X M) : X 23 = M 15 := h.2.2.2.2.2.2.2.2.2.2.2.2.2.2.2.2.2.2.2.2.2.2.2.1
theorem rq_upper {X M : St} (h : RQ X M) : X 24 = M 16 := h.2.2.2.2.2.2.2.2.2.2.2.2.2.2.2.2.2.2.2.2.2.2.2.2.1
theorem rq_lower {X M : St} (h : RQ X M) : X 25 = M 17 := h.2.2.2.2.2.2.2.2.2.2.2.2.2.2.2.2.2.2.2.2.2.2.2.2.2.1
theorem rq_winner {X M : St} (h : RQ X M) : X 26 = M 18 := h.2.2.2.2.2.2.2.2.2.2.2.2.2.2.2.2.2.2.2.2.2.2.2.2.2.2.1
theorem rq_lines {X M : St} (h : RQ X M) : X 112 = M 112 := h.2.2.2.2.2.2.2.2.2.2.2.2.2.2.2.2.2.2.2.2.2.2.2.2.2.2.2.1
theorem rq_low {X M : St} (h : RQ X M) : X 32 = M 22 := h.2.2.2.2.2.2.2.2.2.2.2.2.2.2.2.2.2.2.2.2.2.2.2.2.2.2.2.2.1
theorem rq_high {X M : St} (h : RQ X M) : X 33 = M 23 := h.2.2.2.2.2.2.2.2.2.2.2.2.2.2.2.2.2.2.2.2.2.2.2.2.2.2.2.2.2.1
theorem rq_up {X M : St} (h : RQ X M) : X 34 = M 24 := h.2.2.2.2.2.2.2.2.2.2.2.2.2.2.2.2.2.2.2.2.2.2.2.2.2.2.2.2.2.2.1
theorem rq_wtimes {X M : St} (h : RQ X M) : X 115 = M 113 := h.2.2.2.2.2.2.2.2.2.2.2.2.2.2.2.2.2.2.2.2.2.2.2.2.2.2.2.2.2.2.2.1
theorem rq_fresh {X M : St} (h : RQ X M) : X 116 = M 114 := h.2.2.2.2.2.2.2.2.2.2.2.2.2.2.2.2.2.2.2.2.2.2.2.2.2.2.2.2.2.2.2.2.1
theorem rq_linesThen {X M : St} (h : RQ X M) : X 114 = M 115 := h.2.2.2.2.2.2.2.2.2.2.2.2.2.2.2.2.2.2.2.2.2.2.2.2.2.2.2.2.2.2.2.2.2.1
theorem rq_former {X M : St} (h : RQ X M) : X 35 = M 32 := h.2.2.2.2.2.2.2.2.2.2.2.2.2.2.2.2.2.2.2.2.2.2.2.2.2.2.2.2.2.2.2.2.2.2.1
theorem rq_row {X M : St} (h : RQ X M) : X 42 = M 33 := h.2.2.2.2.2.2.2.2.2.2.2.2.2.2.2.2.2.2.2.2.2.2.2.2.2.2.2.2.2.2.2.2.2.2.2.1
theorem rq_begun {X M : St} (h : RQ X M) : X 118 = M 116 := h.2.2.2.2.2.2.2.2.2.2.2.2.2.2.2.2.2.2.2.2.2.2.2.2.2.2.2.2.2.2.2.2.2.2.2.2.1
theorem rq_holder {X M : St} (h : RQ X M) : X 119 = M 118 := h.2.2.2.2.2.2.2.2.2.2.2.2.2.2.2.2.2.2.2.2.2.2.2.2.2.2.2.2.2.2.2.2.2.2.2.2.2
def cntN (f : Nat → Int32) : Nat → Nat
  | 0 => 0
  | n + 1 => cntN f n + (if f n = (-9) then 1 else 0)
def IB (X : St) (E N : Nat) : Prop := E ≤ 16 ∧ N ≤ E ∧ (X 101 0) = nI E ∧ (X 102 0) = nI N ∧ (∀ r, r < N → ∃ w, w < E ∧ (X 20) r = nI w ∧ (X 13) w = nI r ∧ (X 18) w = 0) ∧ (∀ w, w < E → (X 18) w = 0 → ∃ r, r < N ∧ (X 20) r = nI w) ∧ (∀ w, E ≤ w → (X 18) w = 0)
def IS (X M : St) : Prop := (∀ j, j < 4 → (X 22) j = (-1) ∨ ∃ z, z ≤ 16 ∧ (X 22) j = nI z) ∧ ((X 103 0) ≠ (-9) → vp_in (X 103 0) 4) ∧ (∀ s i, s < 4 → i < 16 → X (43 + s) i = (M 13) (16 * s + i)) ∧ byt (M 13) ∧ (∀ s, s < 4 → byt (X (43 + s)))
def IW (X : St) (k : Nat) : Prop := ∀ w, ∃ a, a ≤ k ∧ (X 14) w = nI a
def IT (X : St) (B d D l : Nat) : Prop := (X 107 0) = nI B ∧ (X 106 0) = nI d ∧ (X 105 0) = nI D ∧ (X 108 0) = nI l ∧ d ≤ D ∧ D ≤ 15 ∧ B ≤ 8 * d ∧ l = cntN (X 26) B ∧ (∀ k, k < B → ∃ u v, u < 16 ∧ v < 16 ∧ u ≠ v ∧ (X 24) k = nI u ∧ (X 25) k = nI v ∧ ((X 26) k = (-9) ∨ (X 26) k = nI u ∨ (X 26) k = nI v))
def IMt (X : St) (B : Nat) : Prop := ∀ a, a < 16 → ∃ m, m < 2 ^ 16 ∧ (X 27) a = nI m ∧ ∀ b, b < 16 → (m.testBit b = true ↔ ∃ k, k < B ∧ (((X 24) k = nI a ∧ (X 25) k = nI b) ∨ ((X 24) k = nI b ∧ (X 25) k = nI a)))
def IC (X : St) (L : Nat) : Prop := (X 112 0) = nI L ∧ L ≤ 12
def IRa (X M : St) (E : Nat) : Prop := (∀ w, w < 16 → (X 18) w = 0 → (X 38) w = (M 25) w ∧ (X 36) w = (M 26) w ∧ (X 37) w = (M 27) w ∧ (X 39) w = (M 28) w) ∧ (∀ w, E ≤ w → w < 16 → (X 38) w = (-9) ∧ (X 36) w = (-9) ∧ (X 37) w = (-9) ∧ (X 39) w = (-9))
def IRb (X : St) (L2 W : Nat) : Prop := (X 114 0) = nI L2 ∧ L2 ≤ 12 ∧ (X 113 0) = nI W ∧ W ≤ 16 ∧ (∀ r, r < 16 → vp_in ((X 35) r) 16)
def IRc (X : St) (E N l W : Nat) : Prop := ¬ (X 116 0) = 0 → l = 0 ∧ W = N ∧ (∀ r, r < N → ∃ w, w < E ∧ (X 35) r = nI w ∧ (X 36) w = nI r ∧ (X 18) w = 0) ∧ (∀ w, w < E → (X 18) w = 0 → ∃ r, r < N ∧ (X 35) r = nI w) ∧ (∀ r, r < N → (X 37) (ix ((X 20) r)) = nI r) ∧ (X 104 0) = 0
def IP (X M : St) (P : Nat) : Prop := (X 117 0) = nI P ∧ P ≤ 16 ∧ (∀ r, r < P → vp_in ((X 42) r) 16) ∧ ((X 118 0) = 0 → P = 0) ∧ ((X 104 0) = 0 → P ≤ 1) ∧ (M 117 0) = nI (if P = 1 then 0 else P)
def Rel (k : Nat) (X M : St) : Prop := ∃ E N B d D l L L2 W P, RQ X M ∧ IB X E N ∧ IS X M ∧ IW X k ∧ IT X B d D l ∧ IMt X B ∧ IC X L ∧ IRa X M E ∧ IRb X L2 W ∧ IRc X E N l W ∧ IP X M P
theorem IW_mono {X : St} {k : Nat} (h : IW X k) : IW X (k + 1) := fun w => by
  obtain ⟨a, h1, h2⟩ := h w
  exact ⟨a, by omega, h2⟩
theorem Rel_mono {k : Nat} {X M : St} (h : Rel k X M) : Rel (k + 1) X M := by
  obtain ⟨E, N, B, d, D, l, L, L2, W, P, a1, a2, a3, a4, a5⟩ := h
  exact ⟨E, N, B, d, D, l, L, L2, W, P, a1, a2, a3, IW_mono a4, a5⟩
theorem i4 {P : Nat → Prop} (h0 : P 0) (h1 : P 1) (h2 : P 2) (h3 : P 3) : ∀ s, s < 4 → P s := fun s hs => by
  rcases (show s = 0 ∨ s = 1 ∨ s = 2 ∨ s = 3 by omega) with rfl | rfl | rfl | rfl <;> assumption
theorem IS_cg {X M Y N : St} (h : IS X M) (h1 : Y 22 = X 22) (h2 : Y 103 = X 103) (h3 : ∀ s, s < 4 → Y (43 + s) = X (43 + s)) (h4 : N 13 = M 13) : IS Y N := by
  obtain ⟨a, b, c, d, e⟩ := h
  unfold IS
  rw [h1, h2, h4]
  exact ⟨a, b, fun s i hs hi => by rw [h3 s hs]; exact c s i hs hi, d, fun s hs => by rw [h3 s hs]; exact e s hs⟩
theorem Rel_found {k : Nat} {X M : St} (f : Int32) (h : Rel k X M) : Rel (k + 1) (s_X2_found X f) (sM_found M f) := by
  obtain ⟨E, N, B, d, D, l, L, L2, W, P, hq, a2, a3, a4, a5, a6, a7, a8, a9, a10, a11⟩ := h
  refine ⟨E, N, B, d, D, l, L, L2, W, P, ?_, a2, IS_cg a3 rfl rfl (i4 rfl rfl rfl rfl) rfl, IW_mono a4, a5, a6, a7, a8, a9, a10, a11⟩
  exact (RQ_mk (by show upd (X 100) 0 f = upd (M 100) 0 f; rw [rq_latest hq]) (by show upd (X 9) (ix f) (X 9 (ix f) + 1) = upd (M 1) (ix f) (M 1 (ix f) + 1); rw [rq_times hq]) (@rq_ever X M hq) (@rq_standing X M hq) (@rq_kind X M hq) (@rq_stable X M hq) (@rq_kin X M hq) (@rq_wins X M hq) (@rq_losses X M hq) (@rq_titles X M hq) (@rq_marks X M hq) (@rq_gone X M hq) (@rq_away X M hq) (@rq_board X M hq) (@rq_ssize X M hq) (@rq_teller X M hq) (@rq_going X M hq) (@rq_days X M hq) (@rq_drawn X M hq) (@rq_bouts X M hq) (@rq_lacking X M hq) (@rq_cost X M hq) (@rq_satOut X M hq) (@rq_day X M hq) (@rq_upper X M hq) (@rq_lower X M hq) (@rq_winner X M hq) (@rq_lines X M hq) (@rq_low X M hq) (@rq_high X M hq) (@rq_up X M hq) (@rq_wtimes X M hq) (@rq_fresh X M hq) (@rq_linesThen X M hq) (@rq_former X M hq) (@rq_row X M hq) (@rq_begun X M hq) (@rq_holder X M hq))
theorem sub1_lt {a : Nat} {w : Int32} (ha : a < 2 ^ 31) : nI a - 1 < w ↔ nI a ≤ w := by
  rcases Nat.eq_zero_or_pos a with e | e
  · subst e
    rw [Int32.lt_iff_toInt_lt, Int32.le_iff_toInt_le]
    have h1 : (nI 0 - 1).toInt = -1 := by decide
    have h2 : (nI 0).toInt = 0 := by decide
    omega
  · rw [nI_m1 e, Int32.lt_iff_toInt_lt, Int32.le_iff_toInt_le, nI_toInt (by omega), nI_toInt ha]
    omega
theorem vin_eq {v : Int32} {a : Nat} (ha : a < 2 ^ 31) : vin v 0 (nI a - 1) = if v < 0 then 0 else if nI a ≤ v then 0 else 1 := by
  unfold vin
  by_cases h1 : v < 0
  · rw [if_pos h1, if_pos h1]
  · rw [if_neg h1, if_neg h1]
    by_cases h2 : nI a ≤ v
    · rw [if_pos h2, if_pos ((sub1_lt ha).mpr h2)]
    · rw [if_neg h2, if_neg (fun q => h2 ((sub1_lt ha).mp q))]
theorem grp_eq (s : Int32) : v_isGroup s = vin s 0 7 := (vin_eq (v := s) (a := 8) (by decide)).symm
theorem sht_eq (s : Int32) : v_isSheet s = vin s 0 3 := (vin_eq (v := s) (a := 4) (by decide)).symm
theorem knd_eq (s : Int32) : v_isKind s = vin s 0 2 := rfl
theorem kn_eq {X M : St} {E N : Nat} (hq : RQ X M) (hB : IB X E N) (w : Int32) : v_X3_knows X w = vM_isOne M w := by
  unfold v_X3_knows vM_isOne
  rw [← rq_ever hq, hB.2.2.1, vin_eq (by have := hB.1; omega)]
theorem bkn_eq {X M : St} {B d D l : Nat} (hq : RQ X M) (hT : IT X B d D l) (w : Int32) : v_X6_knows X w = vin w 0 ((M 107 0) - 1) := by
  unfold v_X6_knows
  obtain ⟨h1, -, -, -, h5, h6, h7, -⟩ := hT
  rw [← rq_bouts hq, h1, vin_eq (by omega)]
/-- the refusals of the two are one -/
theorem ref_eq {X M : St} {E N : Nat} (hq : RQ X M) (hB : IB X E N) (w : Int32) (g : Int32) (hg : ¬ g = 0) : v_ref X w = vM_need M g w := by
  unfold v_ref vM_need
  rw [kn_eq hq hB, rq_gone hq]
  by_cases h1 : vM_isOne M w = 0
  · rw [if_pos h1, if_pos h1]
  · rw [if_neg h1, if_neg h1, if_neg hg]
theorem ref_ge {X : St} {w : Int32} : (v_ref X w = 0) ↔ 0 ≤ v_ref X w := by
  unfold v_ref
  by_cases h1 : v_X3_knows X w = 0
  · rw [if_pos h1]; decide
  · rw [if_neg h1]
    by_cases h2 : (X 18) (ix w) = 0
    · rw [if_pos h2]; decide
    · rw [if_neg h2]; decide
theorem Rel_ref {k : Nat} {X M : St} (h : Rel k X M) (w g : Int32) (hg : ¬ g = 0) : Rel (k + 1) (s_ref X w) (sM_need M g w) := by
  obtain ⟨E, N, B, d, D, l, L, L2, W, P, hq, hB, -⟩ := id h
  unfold s_ref sM_need
  rw [kn_eq hq hB, rq_gone hq]
  by_cases h1 : vM_isOne M w = 0
  · rw [if_pos h1, if_pos h1]; exact Rel_mono h
  · rw [if_neg h1, if_neg h1, if_neg hg]
    by_cases h2 : (M 5) (ix w) = 0
    · rw [if_pos h2, if_pos h2]; exact Rel_mono h
    · rw [if_neg h2, if_neg h2]; exact Rel_found 1 h
theorem need_0 {M : St} {w : Int32} : vM_need M 0 w = (-1) ∧ sM_need M 0 w = M := by
  unfold vM_need sM_need
  by_cases h1 : vM_isOne M w = 0
  · rw [if_pos h1, if_pos h1]; exact ⟨rfl, rfl⟩
  · rw [if_neg h1, if_neg h1]; exact ⟨rfl, rfl⟩
theorem IB_in {X : St} {E N : Nat} (h : IB X E N) : ∀ r, r < N → vp_in ((X 20) r) 16 := fun r hr => by
  obtain ⟨h1, h2, h3, h4, h5, -⟩ := h
  obtain ⟨w, q1, q2, -⟩ := h5 r hr
  rw [q2]; exact vp_in_nI (by omega) (by decide)
/-- the search finds the rung -/
theorem rgS_at {bd : Nat → Int32} {w : Int32} {R : Nat} (h1 : bd R = w) (h2 : ∀ q, q < R → ¬ bd q = w) : ∀ n i, i ≤ R → R < i + n → rgS bd w n i = nI R
  | 0, i, h3, h4 => by omega
  | n + 1, i, h3, h4 => by
    unfold rgS
    by_cases e : i = R
    · subst e; rw [if_pos h1]
    · rw [if_neg (h2 i (by omega))]
      exact rgS_at h1 h2 n (i + 1) (by omega) (by omega)
theorem rung_eq {X M : St} {E N : Nat} (hq : RQ X M) (hB : IB X E N) {w : Nat} (hw : w < E) (hg : (X 18) w = 0) : ∃ R, R < N ∧ (X 20) R = nI w ∧ (X 13) w = nI R ∧ rgS (M 11) (nI w) N 0 = nI R := by
  obtain ⟨h1, h2, h3, h4, h5, h6, h7⟩ := hB
  obtain ⟨R, hR, hb⟩ := h6 w hw hg
  have key : ∀ q, q < N → (X 20) q = nI w → (X 13) w = nI q := fun q hq2 hb2 => by
    obtain ⟨v, a1, a2, a3, a4⟩ := h5 q hq2
    have : v = w := (nI_eq (by omega) (by omega)).mp (by rw [← a2, hb2])
    rw [← this]; exact a3
  refine ⟨R, hR, hb, key R hR hb, ?_⟩
  rw [← rq_board hq]
  refine rgS_at hb (fun q hq2 hb2 => ?_) N 0 (Nat.zero_le _) (by omega)
  have e1 := key q (by omega) hb2
  have e2 := key R hR hb
  have : q = R := (nI_eq (by omega) (by omega)).mp (by rw [← e1, e2])
  omega
theorem kn_lt {X : St} {E N : Nat} (hB : IB X E N) {w : Int32} (h : ¬ v_X3_knows X w = 0) : ∃ v, v < E ∧ w = nI v ∧ ix w = v := by
  have h16 := knows_in h hB.2.2.1 hB.1
  have e := in_nI h16 (by decide)
  refine ⟨ix w, ?_, e, rfl⟩
  unfold v_X3_knows at h
  by_cases h1 : w < 0
  · rw [if_pos h1] at h; exact absurd rfl h
  · by_cases h2 : (X 101 0) ≤ w
    · rw [if_neg h1, if_pos h2] at h; exact absurd rfl h
    · exact ltN e hB.2.2.1 h2 (by have := in_ix h16; omega)
