theorem upd_self {f : Nat → Int32} {i : Nat} : upd f i (f i) = f := by
  funext j
  by_cases e : j = i
  · subst e; exact pk_us
  · exact pk_un e
def upX (Y : St) (bl : Int32) : Int32 := if bl = (-9) then 0 else (Y 34) (ix bl)
theorem stp_v (Y : St) (bl kd : Int32) : v_X0_steps Y bl kd = if kd = 1 then (if upX Y bl < (-1) then (-1) else upX Y bl) else if kd = 2 then (if upX Y bl ≤ 0 then upX Y bl else 2 * upX Y bl) else upX Y bl := by
  unfold v_X0_steps upX
  by_cases c : bl = (-9)
  · rw [if_pos c, if_pos c]
    by_cases k1 : kd = 1
    · rw [if_pos k1]; decide
    · rw [if_neg k1]
      by_cases k2 : kd = 2
      · rw [if_pos k2]; decide
      · rw [if_neg k2]
  · rw [if_neg c, if_neg c]
theorem m1_pos {u : Int32} (h : u < (-1)) : ¬ (-1) - u ≤ 0 := by
  rw [Int32.lt_iff_toInt_lt] at h
  rw [Int32.le_iff_toInt_le, Int32.toInt_sub]
  have h1 : (-1 : Int32).toInt = -1 := by decide
  have h0 : (0 : Int32).toInt = 0 := by decide
  have h2 := Int32.le_toInt u
  rw [h1] at h
  rw [h1, h0]
  rw [Int.bmod_def, show ((2 ^ 32 : Nat) : Int) = 4294967296 from rfl]
  split <;> omega
theorem two_m (u : Int32) : 2 * u - u = u := by
  rw [show (2 : Int32) = 1 + 1 from rfl, Int32.add_mul, Int32.one_mul, Int32.add_sub_cancel]
theorem mk_step (Y : St) (w : Int32) (L : Nat) : s_move Y w L 17 = upd (Y 17) (ix w) ((Y 17) (ix w) + mkV (Y 10 (ix w)) (upX Y (v_BL Y w L))) := by
  have e0 : v_X0_steps Y (v_BL Y w L) 0 = upX Y (v_BL Y w L) := by
    rw [stp_v, if_neg (by decide), if_neg (by decide)]
  have e1 := stp_v Y (v_BL Y w L) (Y 10 (ix w))
  unfold s_move v_more v_stp mkV
  rw [e0, e1]
  generalize upX Y (v_BL Y w L) = u
  by_cases k1 : Y 10 (ix w) = 1
  · rw [if_pos k1, if_pos k1, if_pos k1, k1, if_neg (show ¬ (1 : Int32) = 2 by decide)]
    by_cases c : u < (-1)
    · rw [if_pos c, if_neg (m1_pos c), if_neg (Int32.not_le.mpr c)]; rfl
    · rw [if_neg c, Int32.sub_self, if_pos (by decide), if_pos (Int32.not_lt.mp c), Int32.add_zero, upd_self]; rfl
  · rw [if_neg k1, if_neg k1, if_neg k1]
    by_cases k2 : Y 10 (ix w) = 2
    · rw [if_pos k2, if_pos k2, if_pos k2]
      by_cases c : u ≤ 0
      · rw [if_pos c, if_pos c, Int32.sub_self]; rfl
      · rw [if_neg c, if_neg c, two_m]; rfl
    · rw [if_neg k2, if_neg k2, Int32.add_zero, upd_self]; rfl
theorem wy_step (Y : St) (w : Int32) (L : Nat) : s_move Y w L 38 = upd (Y 38) (ix w) (v_BL Y w L) := by
  unfold s_move
  by_cases k1 : Y 10 (ix w) = 1
  · rw [if_pos k1]
    by_cases c : v_more Y w L ≤ 0
    · rw [if_pos c]; rfl
    · rw [if_neg c]; rfl
  · rw [if_neg k1]
    by_cases k2 : Y 10 (ix w) = 2
    · rw [if_pos k2]; rfl
    · rw [if_neg k2]; rfl
theorem ai_step (Y : St) (w : Int32) (L : Nat) : s_move Y w L 41 = upd (Y 41) (ix w) (2 * ((Y 36) (ix w) - v_stp Y w L) - v_half (v_stp Y w L)) := by
  unfold s_move
  by_cases k1 : Y 10 (ix w) = 1
  · rw [if_pos k1]
    by_cases c : v_more Y w L ≤ 0
    · rw [if_pos c]; rfl
    · rw [if_neg c]; rfl
  · rw [if_neg k1]
    by_cases k2 : Y 10 (ix w) = 2
    · rw [if_pos k2]; rfl
    · rw [if_neg k2]; rfl
theorem mv_BL (S : St) (fm : Nat → Int32) (L n : Nat) (w : Int32) : v_BL (mvL S fm L n) w L = v_BL S w L := by
  unfold v_BL
  rw [mvL_row S fm L (a := 32) (by decide) (by decide) (by decide), mvL_row S fm L (a := 33) (by decide) (by decide) (by decide), mvL_row S fm L (a := 14) (by decide) (by decide) (by decide), mvL_row S fm L (a := 15) (by decide) (by decide) (by decide)]
theorem mv_stp (S : St) (fm : Nat → Int32) (L n : Nat) (w : Int32) : v_stp (mvL S fm L n) w L = v_stp S w L := by
  unfold v_stp v_X0_steps
  rw [mv_BL, mvL_row S fm L (a := 34) (by decide) (by decide) (by decide), mvL_row S fm L (a := 10) (by decide) (by decide) (by decide)]
theorem mv_up (S : St) (fm : Nat → Int32) (L n : Nat) (bl : Int32) : upX (mvL S fm L n) bl = upX S bl := by
  unfold upX
  rw [mvL_row S fm L (a := 34) (by decide) (by decide) (by decide)]
theorem mv38 (S : St) (fm : Nat → Int32) (L : Nat) : ∀ n, mvL S fm L n 38 = fo fm (fun r => v_BL S (fm r) L) (S 38) n
  | 0 => rfl
  | n + 1 => by
    show s_move (mvL S fm L n) (fm n) L 38 = upd (fo fm (fun r => v_BL S (fm r) L) (S 38) n) (ix (fm n)) (v_BL S (fm n) L)
    rw [wy_step, mv_BL, mv38 S fm L n]
theorem mv41 (S : St) (fm : Nat → Int32) (L : Nat) : ∀ n, mvL S fm L n 41 = fo fm (fun r => 2 * ((S 36) (ix (fm r)) - v_stp S (fm r) L) - v_half (v_stp S (fm r) L)) (S 41) n
  | 0 => rfl
  | n + 1 => by
    show s_move (mvL S fm L n) (fm n) L 41 = upd (fo fm (fun r => 2 * ((S 36) (ix (fm r)) - v_stp S (fm r) L) - v_half (v_stp S (fm r) L)) (S 41) n) (ix (fm n)) (2 * ((S 36) (ix (fm n)) - v_stp S (fm n) L) - v_half (v_stp S (fm n) L))
    rw [ai_step, mv_stp, mvL_row S fm L (a := 36) (by decide) (by decide) (by decide), mv41 S fm L n]
theorem mv17 {S M : St} {fm : Nat → Int32} {L : Nat} (h1 : S 17 = M 10) (h2 : S 10 = M 2) (h3 : S 34 = M 24) (h4 : ∀ w, v_BL S w L = mBL M w L) (h5 : fm = M 11) : ∀ n, mvL S fm L n 17 = mkL M L n
  | 0 => h1
  | n + 1 => by
    show s_move (mvL S fm L n) (fm n) L 17 = upd (mkL M L n) (ix ((M 11) n)) (mkL M L n (ix ((M 11) n)) + mkV ((M 2) (ix ((M 11) n))) (vM_up M (mBL M ((M 11) n) L)))
    rw [mk_step, mv_BL, mv_up, mv17 h1 h2 h3 h4 h5 n, mvL_row S fm L (a := 10) (by decide) (by decide) (by decide), h2, h4, h5]
    unfold upX vM_up
    rw [h3]
theorem whL_fo (M : St) (L : Nat) : ∀ n, whL M L n = fo (M 11) (fun r => mBL M ((M 11) r) L) (zr (M 25) (-9) 16) n
  | 0 => rfl
  | n + 1 => by
    show upd (whL M L n) (ix ((M 11) n)) (mBL M ((M 11) n) L) = upd (fo (M 11) (fun r => mBL M ((M 11) r) L) (zr (M 25) (-9) 16) n) (ix ((M 11) n)) (mBL M ((M 11) n) L)
    rw [whL_fo M L n]
def rcl (X : St) : St := s_X7_recall X (X 112 0)
theorem BL_eq {X M : St} (hq : RQ X M) (w : Int32) (L : Nat) : v_BL (rcl X) w L = mBL M w L := by
  show lfr (X 32) (X 33) ((X 14) (ix w) - (X 15) (ix w)) L 0 = _
  unfold mBL
  rw [rq_low hq, rq_high hq, rq_wins hq, rq_losses hq]
theorem an_ord {X M : St} {E N L : Nat} (hq : RQ X M) (hB : IB X E N) : ∀ r, r < N → an2 X N L 40 r = am3 M L N 30 r := fun r hr => by
  have hN : ix (X 102 0) = N := by rw [hB.2.2.2.1]; exact ix_nI (by have := hB.1; have := hB.2.1; omega)
  have inj : ∀ a b, a < N → b < N → ix ((X 20) a) = ix ((X 20) b) → a = b := fun a b ha hb q => IB_inj hB ha hb q
  show arrL (an1 X N L 41) (recF (X 20) (X 35) N) (X 40) N r = odL (am2 M L N) (recF (M 11) (M 32) N) (scZ (M 7) (M 8) (M 31) 16) L N r
  refine sort_eq (N := N) (fun r hr => ?_) (fun a b ha hb q => ?_) (fun r hr => ?_) N (Nat.le_refl _) r hr
  · rw [recF_at hr, recF_at hr, rq_board hq]
  · rw [recF_at ha, recF_at hb] at q; exact inj a b ha hb q
  · rw [recF_at hr, recF_at hr, ← rq_board hq]
    show mvL (rcl X) (X 20) L N 41 (ix (X 20 r)) = _
    rw [mv41, fo_at (g := fun r => 2 * ((rcl X 36) (ix ((X 20) r)) - v_stp (rcl X) ((X 20) r) L) - v_half (v_stp (rcl X) ((X 20) r) L)) N inj r hr]
    have hb : rcl X 36 (ix (X 20 r)) = nI r := by
      show recB (X 20) (X 36) (ix (X 102 0)) (ix (X 20 r)) = nI r
      rw [hN, recB_fo]; exact fo_at (g := nI) N inj r hr
    have h16 : ix (X 20 r) < 16 := in_ix (IB_in hB r hr)
    have hs : v_stp (rcl X) (X 20 r) L = oaU (am2 M L N) (X 20 r) (scZ (M 7) (M 8) (M 31) 16) L := by
      unfold v_stp oaU
      rw [BL_eq hq]
      have e : scZ (M 7) (M 8) (M 31) 16 (ix (X 20 r)) = (M 7) (ix (X 20 r)) - (M 8) (ix (X 20 r)) := if_pos h16
      rw [e]
      exact steps_eq (X := rcl X) (M := am2 M L N) (@rq_up X M hq) (@rq_kind X M hq) (X 20 r) _
    show 2 * (rcl X 36 (ix (X 20 r)) - v_stp (rcl X) (X 20 r) L) - v_half (v_stp (rcl X) (X 20 r) L) = _
    rw [hb, hs, half_eq]
theorem an_perm {X : St} {E N L : Nat} : (listOf (an2 X N L 40) N).Perm (listOf (X 20) N) := by
  have := arrL_perm (ai := an1 X N L 41) (fm := recF (X 20) (X 35) N) (o := X 40) N
  rw [lo_cg (f := recF (X 20) (X 35) N) (g := X 20) (fun r hr => recF_at hr)] at this
  exact this
theorem an_in {X : St} {E N L : Nat} (hB : IB X E N) : ∀ r, r < N → vp_in (an2 X N L 40 r) 16 := by
  refine arrL_in (ai := an1 X N L 41) (fm := recF (X 20) (X 35) N) (o := X 40) N (fun r hr => ?_)
  rw [recF_at hr]; exact IB_in hB r hr
/-- an order that holds the board's own -/
theorem ord_nodup {X : St} {E N : Nat} (hB : IB X E N) {od : Nat → Int32} (hp : (listOf od N).Perm (listOf (X 20) N)) : ∀ a b, a < N → b < N → ix (od a) = ix (od b) → a = b :=
  lo_inj (hp.nodup_iff.mpr (lo_nodup (fun a b ha hb q => IB_inj hB ha hb q)))
theorem ord_mem {X : St} {E N : Nat} (hB : IB X E N) {od : Nat → Int32} (hp : (listOf od N).Perm (listOf (X 20) N)) {r : Nat} (hr : r < N) : ix (od r) < E ∧ (X 18) (ix (od r)) = 0 := by
  have : ix (od r) ∈ listOf (X 20) N := hp.mem_iff.mp (lo_mem.mpr ⟨r, hr, rfl⟩)
  have := (bd_perm hB).mem_iff.mp this
  exact go_mem.mp this
theorem ord_sur {X : St} {E N : Nat} (hB : IB X E N) {od : Nat → Int32} (hp : (listOf od N).Perm (listOf (X 20) N)) {w : Nat} (hw : w < E) (hg : (X 18) w = 0) : ∃ r, r < N ∧ ix (od r) = w := by
  have h1 : w ∈ goL (X 18) E := go_mem.mpr ⟨hw, hg⟩
  exact lo_mem.mp (hp.mem_iff.mpr ((bd_perm hB).mem_iff.mpr h1))
theorem recB_at {bd f : Nat → Int32} {n r : Nat} (hi : ∀ a b, a < n → b < n → ix (bd a) = ix (bd b) → a = b) (hr : r < n) : recB bd f n (ix (bd r)) = nI r := by
  rw [recB_fo]; exact fo_at (g := nI) n hi r hr
theorem recB_no {bd f : Nat → Int32} {n w : Nat} (h : ∀ r, r < n → ix (bd r) ≠ w) : recB bd f n w = f w := by
  rw [recB_fo]; exact fo_out n h
/-- rungs recorded over two former ones are alike where the former ones are -/
theorem recB_two {bd bd' f g : Nat → Int32} {n : Nat} (hb : ∀ r, r < n → bd r = bd' r) (hi : ∀ a b, a < n → b < n → ix (bd a) = ix (bd b) → a = b) {w : Nat} (h : (∃ r, r < n ∧ ix (bd r) = w) ∨ f w = g w) : recB bd f n w = recB bd' g n w := by
  rw [← recB_cg n hb]
  by_cases c : ∃ r, r < n ∧ ix (bd r) = w
  · obtain ⟨r, h1, h2⟩ := c
    rw [← h2, recB_at hi h1, recB_at hi h1]
  · have : ∀ r, r < n → ix (bd r) ≠ w := fun r hr q => c ⟨r, hr, q⟩
    rw [recB_no this, recB_no this]
    exact h.resolve_left c
set_option maxHeartbeats 1000000 in
theorem Rel_anew {k : Nat} {X M : St} {E N B d D l L L2 W P : Nat} (hq : RQ X M) (hB : IB X E N) (hS : IS X M) (hW : IW X k) (hT : IT X B d D l) (hMt : IMt X B) (hC : IC X L) (hRa : IRa X M E) (hRb : IRb X L2 W) (hP : IP X M P) (hl : l = 0) (hP1 : P ≤ 1) : Rel (k + 1) (ux (an3 X N L N) 104 0 0) (sM_anew1 M L N) := by
  have hN : ix (X 102 0) = N := by rw [hB.2.2.2.1]; exact ix_nI (by have := hB.1; have := hB.2.1; omega)
  have inj : ∀ a b, a < N → b < N → ix ((X 20) a) = ix ((X 20) b) → a = b := fun a b ha hb q => IB_inj hB ha hb q
  have hord : ∀ r, r < N → an2 X N L 40 r = am3 M L N 30 r := an_ord hq hB
  have hp : (listOf (an2 X N L 40) N).Perm (listOf (X 20) N) := an_perm (E := E)
  have oinj := ord_nodup hB hp
  have oin : ∀ r, r < N → vp_in (an2 X N L 40 r) 16 := an_in hB
  obtain ⟨Y, hY⟩ : ∃ Y, Y = ux (an3 X N L N) 104 0 0 := ⟨_, rfl⟩
  rw [← hY]
  have y9 : Y 9 = X 9 := by rw [hY]; exact (mvL_row (rcl X) (X 20) L (a := 9) (by decide) (by decide) (by decide) N)
  have y10 : Y 10 = X 10 := by rw [hY]; exact (mvL_row (rcl X) (X 20) L (a := 10) (by decide) (by decide) (by decide) N)
  have y11 : Y 11 = X 11 := by rw [hY]; exact (mvL_row (rcl X) (X 20) L (a := 11) (by decide) (by decide) (by decide) N)
  have y12 : Y 12 = X 12 := by rw [hY]; exact (mvL_row (rcl X) (X 20) L (a := 12) (by decide) (by decide) (by decide) N)
  have y14 : Y 14 = X 14 := by rw [hY]; exact (mvL_row (rcl X) (X 20) L (a := 14) (by decide) (by decide) (by decide) N)
  have y15 : Y 15 = X 15 := by rw [hY]; exact (mvL_row (rcl X) (X 20) L (a := 15) (by decide) (by decide) (by decide) N)
  have y16 : Y 16 = X 16 := by rw [hY]; exact (mvL_row (rcl X) (X 20) L (a := 16) (by decide) (by decide) (by decide) N)
  have y18 : Y 18 = X 18 := by rw [hY]; exact (mvL_row (rcl X) (X 20) L (a := 18) (by decide) (by decide) (by decide) N)
  have y19 : Y 19 = X 19 := by rw [hY]; exact (mvL_row (rcl X) (X 20) L (a := 19) (by decide) (by decide) (by decide) N)
  have y22 : Y 22 = X 22 := by rw [hY]; exact (mvL_row (rcl X) (X 20) L (a := 22) (by decide) (by decide) (by decide) N)
  have y23 : Y 23 = X 23 := by rw [hY]; exact (mvL_row (rcl X) (X 20) L (a := 23) (by decide) (by decide) (by decide) N)
  have y24 : Y 24 = X 24 := by rw [hY]; exact (mvL_row (rcl X) (X 20) L (a := 24) (by decide) (by decide) (by decide) N)
  have y25 : Y 25 = X 25 := by rw [hY]; exact (mvL_row (rcl X) (X 20) L (a := 25) (by decide) (by decide) (by decide) N)
  have y26 : Y 26 = X 26 := by rw [hY]; exact (mvL_row (rcl X) (X 20) L (a := 26) (by decide) (by decide) (by decide) N)
  have y27 : Y 27 = X 27 := by rw [hY]; exact (mvL_row (rcl X) (X 20) L (a := 27) (by decide) (by decide) (by decide) N)
  have y32 : Y 32 = X 32 := by rw [hY]; exact (mvL_row (rcl X) (X 20) L (a := 32) (by decide) (by decide) (by decide) N)
  have y33 : Y 33 = X 33 := by rw [hY]; exact (mvL_row (rcl X) (X 20) L (a := 33) (by decide) (by decide) (by decide) N)
  have y34 : Y 34 = X 34 := by rw [hY]; exact (mvL_row (rcl X) (X 20) L (a := 34) (by decide) (by decide) (by decide) N)
  have y39 : Y 39 = X 39 := by rw [hY]; exact (mvL_row (rcl X) (X 20) L (a := 39) (by decide) (by decide) (by decide) N)
  have y42 : Y 42 = X 42 := by rw [hY]; exact (mvL_row (rcl X) (X 20) L (a := 42) (by decide) (by decide) (by decide) N)
  have y43 : Y 43 = X 43 := by rw [hY]; exact (mvL_row (rcl X) (X 20) L (a := 43) (by decide) (by decide) (by decide) N)
  have y44 : Y 44 = X 44 := by rw [hY]; exact (mvL_row (rcl X) (X 20) L (a := 44) (by decide) (by decide) (by decide) N)
  have y45 : Y 45 = X 45 := by rw [hY]; exact (mvL_row (rcl X) (X 20) L (a := 45) (by decide) (by decide) (by decide) N)
  have y46 : Y 46 = X 46 := by rw [hY]; exact (mvL_row (rcl X) (X 20) L (a := 46) (by decide) (by decide) (by decide) N)
  have y100 : Y 100 = X 100 := by rw [hY]; exact (mvL_row (rcl X) (X 20) L (a := 100) (by decide) (by decide) (by decide) N)
  have y101 : Y 101 = X 101 := by rw [hY]; exact (mvL_row (rcl X) (X 20) L (a := 101) (by decide) (by decide) (by decide) N)
  have y102 : Y 102 = X 102 := by rw [hY]; exact (mvL_row (rcl X) (X 20) L (a := 102) (by decide) (by decide) (by decide) N)
  have y103 : Y 103 = X 103 := by rw [hY]; exact (mvL_row (rcl X) (X 20) L (a := 103) (by decide) (by decide) (by decide) N)
  have y105 : Y 105 = X 105 := by rw [hY]; exact (mvL_row (rcl X) (X 20) L (a := 105) (by decide) (by decide) (by decide) N)
  have y106 : Y 106 = X 106 := by rw [hY]; exact (mvL_row (rcl X) (X 20) L (a := 106) (by decide) (by decide) (by decide) N)
  have y107 : Y 107 = X 107 := by rw [hY]; exact (mvL_row (rcl X) (X 20) L (a := 107) (by decide) (by decide) (by decide) N)
  have y108 : Y 108 = X 108 := by rw [hY]; exact (mvL_row (rcl X) (X 20) L (a := 108) (by decide) (by decide) (by decide) N)
  have y109 : Y 109 = X 109 := by rw [hY]; exact (mvL_row (rcl X) (X 20) L (a := 109) (by decide) (by decide) (by decide) N)
  have y110 : Y 110 = X 110 := by rw [hY]; exact (mvL_row (rcl X) (X 20) L (a := 110) (by decide) (by decide) (by decide) N)
  have y112 : Y 112 = X 112 := by rw [hY]; exact (mvL_row (rcl X) (X 20) L (a := 112) (by decide) (by decide) (by decide) N)
  have y117 : Y 117 = X 117 := by rw [hY]; exact (mvL_row (rcl X) (X 20) L (a := 117) (by decide) (by decide) (by decide) N)
  have y118 : Y 118 = X 118 := by rw [hY]; exact (mvL_row (rcl X) (X 20) L (a := 118) (by decide) (by decide) (by decide) N)
  have y119 : Y 119 = X 119 := by rw [hY]; exact (mvL_row (rcl X) (X 20) L (a := 119) (by decide) (by decide) (by decide) N)
  have y20 : Y 20 = recF (an2 X N L 40) (X 20) N := by rw [hY]; rfl
  have y13 : Y 13 = recB (an2 X N L 40) (X 13) N := by rw [hY]; rfl
  have y37 : Y 37 = recB (an2 X N L 40) (X 37) N := by rw [hY]; rfl
  have y104 : Y 104 = upd (X 104) 0 0 := by rw [hY]; show upd (mvL (rcl X) (X 20) L N 104) 0 0 = _; rw [mvL_row (rcl X) (X 20) L (a := 104) (by decide) (by decide) (by decide) N]; rfl
  have y115 : Y 115 = upd (X 115) 0 (X 115 0 + 1) := by rw [hY]; exact (mvL_row (rcl X) (X 20) L (a := 115) (by decide) (by decide) (by decide) N)
  have y116 : Y 116 = upd (X 116) 0 1 := by rw [hY]; exact (mvL_row (rcl X) (X 20) L (a := 116) (by decide) (by decide) (by decide) N)
  have y114 : Y 114 = upd (X 114) 0 (X 112 0) := by rw [hY]; exact (mvL_row (rcl X) (X 20) L (a := 114) (by decide) (by decide) (by decide) N)
  have y113 : Y 113 = upd (X 113) 0 (X 102 0) := by rw [hY]; exact (mvL_row (rcl X) (X 20) L (a := 113) (by decide) (by decide) (by decide) N)
  have y35 : Y 35 = recF (X 20) (X 35) N := by rw [← hN, hY]; rw [hN]; exact (mvL_row (rcl X) (X 20) L (a := 35) (by decide) (by decide) (by decide) N).trans (by show recF (X 20) (X 35) (ix (X 102 0)) = _; rw [hN])
  have y36 : Y 36 = recB (X 20) (X 36) N := by rw [hY]; exact (mvL_row (rcl X) (X 20) L (a := 36) (by decide) (by decide) (by decide) N).trans (by show recB (X 20) (X 36) (ix (X 102 0)) = _; rw [hN])
  have y38 : Y 38 = fo (X 20) (fun r => v_BL (rcl X) (X 20 r) L) (X 38) N := by rw [hY]; exact mv38 (rcl X) (X 20) L N
  refine ⟨E, N, B, d, D, l, L, L, N, P, (RQ_mk (X := Y) (M := sM_anew1 M L N) ((show Y 100 = X 100 from y100).trans (@rq_latest X M hq)) ((show Y 9 = X 9 from y9).trans (@rq_times X M hq)) ((show Y 101 = X 101 from y101).trans (@rq_ever X M hq)) ((show Y 102 = X 102 from y102).trans (@rq_standing X M hq)) ((show Y 10 = X 10 from y10).trans (@rq_kind X M hq)) ((show Y 11 = X 11 from y11).trans (@rq_stable X M hq)) ((show Y 12 = X 12 from y12).trans (@rq_kin X M hq)) ((show Y 14 = X 14 from y14).trans (@rq_wins X M hq)) ((show Y 15 = X 15 from y15).trans (@rq_losses X M hq)) ((show Y 16 = X 16 from y16).trans (@rq_titles X M hq)) (by rw [hY]; exact mv17 (S := rcl X) (@rq_marks X M hq) (@rq_kind X M hq) (@rq_up X M hq) (fun w => BL_eq hq w L) (@rq_board X M hq) N) ((show Y 18 = X 18 from y18).trans (@rq_gone X M hq)) ((show Y 19 = X 19 from y19).trans (@rq_away X M hq)) (by rw [y20]; show recF (an2 X N L 40) (X 20) N = recF (am3 M L N 30) (M 11) N; rw [recF_cg N hord, rq_board hq]) ((show Y 22 = X 22 from y22).trans (@rq_ssize X M hq)) ((show Y 103 = X 103 from y103).trans (@rq_teller X M hq)) (by rw [y104]; show upd (X 104) 0 0 = upd (M 103) 0 0; rw [rq_going hq]) ((show Y 105 = X 105 from y105).trans (@rq_days X M hq)) ((show Y 106 = X 106 from y106).trans (@rq_drawn X M hq)) ((show Y 107 = X 107 from y107).trans (@rq_bouts X M hq)) ((show Y 108 = X 108 from y108).trans (@rq_lacking X M hq)) ((show Y 109 = X 109 from y109).trans (@rq_cost X M hq)) ((show Y 110 = X 110 from y110).trans (@rq_satOut X M hq)) ((show Y 23 = X 23 from y23).trans (@rq_day X M hq)) ((show Y 24 = X 24 from y24).trans (@rq_upper X M hq)) ((show Y 25 = X 25 from y25).trans (@rq_lower X M hq)) ((show Y 26 = X 26 from y26).trans (@rq_winner X M hq)) ((show Y 112 = X 112 from y112).trans (@rq_lines X M hq)) ((show Y 32 = X 32 from y32).trans (@rq_low X M hq)) ((show Y 33 = X 33 from y33).trans (@rq_high X M hq)) ((show Y 34 = X 34 from y34).trans (@rq_up X M hq)) (by rw [y115]; show upd (X 115) 0 (X 115 0 + 1) = upd (M 113) 0 (M 113 0 + 1); rw [rq_wtimes hq]) (by rw [y116]; show upd (X 116) 0 1 = upd (M 114) 0 1; rw [rq_fresh hq]) (by rw [y114]; show upd (X 114) 0 (X 112 0) = upd (M 115) 0 (M 112 0); rw [rq_linesThen hq, rq_lines hq]) (by rw [y35]; show recF (X 20) (X 35) N = recF (M 11) (M 32) N; rw [rq_board hq, rq_former hq]) ((show Y 42 = X 42 from y42).trans (@rq_row X M hq)) ((show Y 118 = X 118 from y118).trans (@rq_begun X M hq)) ((show Y 119 = X 119 from y119).trans (@rq_holder X M hq))), ?_, ?_, ?_, ?_, ?_, ?_, ?_, ?_, ?_, ?_⟩
  · -- IB
    unfold IB
    rw [y101, y102, y20, y13, y18]
    refine ⟨hB.1, hB.2.1, hB.2.2.1, hB.2.2.2.1, fun r hr => ?_, fun w hw hg => ?_, hB.2.2.2.2.2.2⟩
    · have hm := ord_mem hB hp hr
      exact ⟨ix (an2 X N L 40 r), hm.1, by rw [recF_at hr]; exact in_nI (oin r hr) (by decide), recB_at oinj hr, hm.2⟩
    · obtain ⟨r, h1, h2⟩ := ord_sur hB hp hw hg
      exact ⟨r, h1, by rw [recF_at h1, ← h2]; exact in_nI (oin r h1) (by decide)⟩
  · exact IS_cg hS y22 y103 (i4 y43 y44 y45 y46) rfl
  · unfold IW; rw [y14]; exact IW_mono hW
  · unfold IT; rw [y107, y106, y105, y108, y26, y24, y25]; exact hT
  · unfold IMt; rw [y27, y24, y25]; exact hMt
  · unfold IC; rw [y112]; exact hC
  · -- IRa
    unfold IRa
    rw [y18, y38, y36, y37, y39]
    refine ⟨fun w hw hg => ⟨?_, ?_, ?_, ?_⟩, fun w h1 h2 => ⟨?_, ?_, ?_, ?_⟩⟩
    · show _ = whL M L N w
      rw [whL_fo, ← rq_board hq]
      by_cases c : w < E
      · obtain ⟨r, r1, r2⟩ := ord_sur (od := X 20) hB (List.Perm.refl _) c hg
        rw [← r2, fo_at (g := fun r => v_BL (rcl X) (X 20 r) L) N inj r r1, fo_at (g := fun r => mBL M (X 20 r) L) N inj r r1]
        exact BL_eq hq _ L
      · have hout : ∀ r, r < N → ix (X 20 r) ≠ w := fun r hr q => by
          have := (ord_mem (od := X 20) hB (List.Perm.refl _) hr).1
          omega
        rw [fo_out N hout, fo_out N hout, (hRa.2 w (by omega) hw).1]
        exact (if_pos hw).symm
    · show _ = recB (M 11) (zr (M 26) (-9) 16) N w
      refine recB_two (fun r _ => by rw [rq_board hq]) inj ?_
      by_cases c : w < E
      · exact Or.inl (ord_sur (od := X 20) hB (List.Perm.refl _) c hg)
      · exact Or.inr ((hRa.2 w (by omega) hw).2.1.trans (if_pos hw).symm)
    · show _ = recB (am3 M L N 30) (zr (M 27) (-9) 16) N w
      refine recB_two hord oinj ?_
      by_cases c : w < E
      · exact Or.inl (ord_sur hB hp c hg)
      · exact Or.inr ((hRa.2 w (by omega) hw).2.2.1.trans (if_pos hw).symm)
    · exact (hRa.1 w hw hg).2.2.2
    · rw [fo_out N (fun r hr q => by have := (ord_mem (od := X 20) hB (List.Perm.refl _) hr).1; omega)]
      exact (hRa.2 w h1 h2).1
    · rw [recB_no (fun r hr q => by have := (ord_mem (od := X 20) hB (List.Perm.refl _) hr).1; omega)]
      exact (hRa.2 w h1 h2).2.1
    · rw [recB_no (fun r hr q => by have := (ord_mem hB hp hr).1; omega)]
      exact (hRa.2 w h1 h2).2.2.1
    · exact (hRa.2 w h1 h2).2.2.2
  · -- IRb
    unfold IRb
    rw [y114, y113, y35, pk_us, pk_us]
    refine ⟨hC.1, hC.2, hB.2.2.2.1, Nat.le_trans hB.2.1 hB.1, fun r hr => ?_⟩
    by_cases c : r < N
    · rw [recF_at c]; exact IB_in hB r c
    · rw [recF_no c]; exact hRb.2.2.2.2 r hr
  · -- IRc
    unfold IRc
    rw [y35, y36, y37, y20, y18, y104]
    intro _
    refine ⟨hl, rfl, fun r hr => ?_, fun w hw hg => ?_, fun r hr => ?_, pk_us⟩
    · obtain ⟨w, a1, a2, a3, a4⟩ := hB.2.2.2.2.1 r hr
      refine ⟨w, a1, by rw [recF_at hr]; exact a2, ?_, a4⟩
      have := recB_at (f := X 36) inj hr
      rw [a2, ix_nI (by have := hB.1; omega)] at this
      exact this
    · obtain ⟨r, a1, a2⟩ := hB.2.2.2.2.2.1 w hw hg
      exact ⟨r, a1, by rw [recF_at a1]; exact a2⟩
    · rw [recF_at hr]; exact recB_at oinj hr
  · -- IP
    unfold IP
    rw [y117, y42, y118, y104]
    exact ⟨hP.1, hP.2.1, hP.2.2.1, hP.2.2.2.1, fun _ => hP1, hP.2.2.2.2.2⟩
theorem cmp_l {X : St} {B d D l : Nat} (hT : IT X B d D l) (h : ¬ v_X6_isComplete X = 0) : l = 0 := by
  obtain ⟨t1, t2, t3, t4, t5, t6, t7, t8, t9⟩ := hT
  have hl : l < 2 ^ 31 := by
    have : ∀ n, cntN (X 26) n ≤ n := fun n => by
      induction n with
      | zero => exact Nat.le_refl _
      | succ n ih =>
        show cntN (X 26) n + (if (X 26) n = (-9) then 1 else 0) ≤ n + 1
        by_cases e : (X 26) n = (-9)
        · rw [if_pos e]; omega
        · rw [if_neg e]; omega
    have := this B
    omega
  unfold v_X6_isComplete at h
  by_cases h1 : (X 104 0) = 0
  · rw [if_pos h1] at h; exact absurd rfl h
  · rw [if_neg h1] at h
    by_cases h2 : (X 106 0) = (X 105 0)
    · rw [if_pos h2] at h
      by_cases h3 : (X 108 0) = 0
      · rw [t4] at h3; exact (nI_eq (b := 0) hl (by decide)).mp h3
      · rw [if_neg h3] at h; exact absurd rfl h
    · rw [if_neg h2] at h; exact absurd rfl h
theorem law_anew {k : Nat} {X M : St} (h : Rel k X M) (G H : Gx) : ∃ PX PM : Int32 → St → Prop, (∀ l D, Ci l yX8_anew cX8_anew 3 (some .int) 3 (xw G) D (tyG G) [.ref (G.1 0)] X PX) ∧ (∀ l D, Ci l yX9_anew cX9_anew 4 (some .int) 3 (mw H) D (tyG H) [.ref (H.1 0)] M PM) ∧ ∀ r X1 r2 M1, PX r X1 → PM r2 M1 → r = r2 ∧ Rel (k + 1) X1 M1 := by
  obtain ⟨E, N, B, d, D, l, L, L2, W, P, hq, hB, hS, hW, hT, hMt, hC, hRa, hRb, hRc, hP⟩ := id h
  refine ⟨_, _, fun l D => c_X8_anew l D G N L X  hB.2.2.2.1 (Nat.le_trans hB.2.1 hB.1) (IB_in hB) hC.1 hC.2, fun l D => c_X9_anew l D H L N M  ((congrFun (rq_standing hq) 0).symm.trans hB.2.2.2.1) (Nat.le_trans hB.2.1 hB.1) (rq_board hq ▸ IB_in hB) ((congrFun (rq_lines hq) 0).symm.trans hC.1) hC.2, mk2 (?_) (?_)⟩
  · unfold v_anew vM_anew
    have hg := cmp_if hq hT (-4 : Int32) (if (M 117 0) ≤ 1 then (ctL (am3 M L N 30) (recB (M 11) (zr (M 26) (-9) 16) N) N) else (-4 : Int32))
    have h117 : (M 117 0) ≤ 1 ↔ P ≤ 1 := by
      have := go_M hP.2.2.2.2.2 hP.2.1
      rw [← Decidable.not_iff_not, ← this, Int32.not_le, Int32.lt_iff_toInt_lt, Int32.le_iff_toInt_le]
      have e1 : (1 : Int32).toInt = 1 := by decide
      have e2 : (2 : Int32).toInt = 2 := by decide
      omega
    rw [show (if (M 103 0) = 0 then (-4 : Int32) else if (M 106 0) < (M 105 0) then (-4 : Int32) else if 0 < (M 108 0) then (-4 : Int32) else if (M 117 0) ≤ 1 then (ctL (am3 M L N 30) (recB (M 11) (zr (M 26) (-9) 16) N) N) else (-4 : Int32)) = _ from hg]
    by_cases h1 : v_X6_isComplete X = 0
    · rw [if_pos h1, if_pos h1]
    · rw [if_neg h1, if_neg h1]
      by_cases h2 : P ≤ 1
      · rw [if_pos ((go_P hP.1 hP.2.1).mpr h2), if_pos (h117.mpr h2)]
        have hp : (listOf (an2 X N L 40) N).Perm (listOf (X 20) N) := an_perm (E := E)
        have oinj := ord_nodup hB hp
        have inj : ∀ a b, a < N → b < N → ix ((X 20) a) = ix ((X 20) b) → a = b := fun a b ha hb q => IB_inj hB ha hb q
        rw [difL_l, ← ctL_cg N (an_ord (L := L) hq hB), ctL_l (T := recB (an2 X N L 40) (X 37) N) N (fun r hr => recB_at oinj hr), lo_cg (f := recF (X 20) (X 35) N) (g := X 20) (fun r hr => recF_at hr), ← lsum_perm hp]
        refine lsum_cg _ (fun a ha => ?_)
        obtain ⟨r, r1, r2⟩ := lo_mem.mp ha
        have hm := ord_mem hB hp r1
        rw [r2] at hm
        rw [recB_two (bd := X 20) (bd' := M 11) (f := X 36) (g := zr (M 26) (-9) 16) (fun r _ => by rw [rq_board hq]) inj (Or.inl (ord_sur (od := X 20) hB (List.Perm.refl _) hm.1 hm.2))]
      · rw [if_neg (fun q => h2 ((go_P hP.1 hP.2.1).mp q)), if_neg (fun q => h2 (h117.mp q))]
  · unfold s_anew sM_anew
    have hg := cmp_if hq hT M (if (M 117 0) ≤ 1 then (sM_anew1 M L N) else M)
    have h117 : (M 117 0) ≤ 1 ↔ P ≤ 1 := by
      have := go_M hP.2.2.2.2.2 hP.2.1
      rw [← Decidable.not_iff_not, ← this, Int32.not_le, Int32.lt_iff_toInt_lt, Int32.le_iff_toInt_le]
      have e1 : (1 : Int32).toInt = 1 := by decide
      have e2 : (2 : Int32).toInt = 2 := by decide
      omega
    rw [show (if (M 103 0) = 0 then M else if (M 106 0) < (M 105 0) then M else if 0 < (M 108 0) then M else if (M 117 0) ≤ 1 then (sM_anew1 M L N) else M) = _ from hg]
    by_cases h1 : v_X6_isComplete X = 0
    · rw [if_pos h1, if_pos h1]; exact Rel_mono h
    · rw [if_neg h1, if_neg h1]
      by_cases h2 : P ≤ 1
      · rw [if_pos ((go_P hP.1 hP.2.1).mpr h2), if_pos (h117.mpr h2)]
        exact Rel_anew hq hB hS hW hT hMt hC hRa hRb hP (cmp_l hT h1) h2
      · rw [if_neg (fun q => h2 ((go_P hP.1 hP.2.1).mp q)), if_neg (fun q => h2 (h117.mp q))]; exact Rel_mono h
