def lsum (g : Nat → Int32) : List Nat → Int32
  | [] => 0
  | a :: t => lsum g t + g a
theorem add_rc (a b c : Int32) : a + b + c = a + c + b := by
  rw [Int32.add_assoc, Int32.add_comm b c, ← Int32.add_assoc]
theorem lsum_perm {g : Nat → Int32} {l1 l2 : List Nat} (h : l1.Perm l2) : lsum g l1 = lsum g l2 := by
  induction h with
  | nil => rfl
  | cons x _ ih => show lsum g _ + g x = lsum g _ + g x; rw [ih]
  | swap x y l => exact add_rc _ _ _
  | trans _ _ ih1 ih2 => rw [ih1, ih2]
theorem lsum_snoc (g : Nat → Int32) (a : Nat) : ∀ l, lsum g (l ++ [a]) = lsum g l + g a
  | [] => rfl
  | b :: t => by
    show lsum g (t ++ [a]) + g b = lsum g t + g b + g a
    rw [lsum_snoc g a t]; exact add_rc _ _ _
def listOf (f : Nat → Int32) (n : Nat) : List Nat := (List.range n).map (fun r => ix (f r))
theorem lo_succ (f : Nat → Int32) (n : Nat) : listOf f (n + 1) = listOf f n ++ [ix (f n)] := by
  unfold listOf; rw [List.range_succ, List.map_append]; rfl
theorem lo_mem {f : Nat → Int32} {n a : Nat} : a ∈ listOf f n ↔ ∃ r, r < n ∧ ix (f r) = a := by
  unfold listOf; simp
theorem lo_nodup {f : Nat → Int32} {n : Nat} (h : ∀ a b, a < n → b < n → ix (f a) = ix (f b) → a = b) : (listOf f n).Nodup := by
  unfold listOf List.Nodup
  rw [List.pairwise_map]
  exact List.nodup_range.imp_of_mem (fun ha hb hne q => hne (h _ _ (List.mem_range.mp ha) (List.mem_range.mp hb) q))
def goL (hl : Nat → Int32) (n : Nat) : List Nat := (List.range n).filter (fun w => decide (hl w = 0))
theorem go_succ (hl : Nat → Int32) (n : Nat) : goL hl (n + 1) = goL hl n ++ (if hl n = 0 then [n] else []) := by
  unfold goL; rw [List.range_succ, List.filter_append]
  congr 1
  by_cases e : hl n = 0
  · rw [if_pos e]; simp [e]
  · rw [if_neg e]; simp [e]
theorem go_mem {hl : Nat → Int32} {n a : Nat} : a ∈ goL hl n ↔ a < n ∧ hl a = 0 := by
  unfold goL; simp
theorem bd_perm {X : St} {E N : Nat} (hB : IB X E N) : (listOf (X 20) N).Perm (goL (X 18) E) := by
  refine (List.perm_ext_iff_of_nodup (lo_nodup (fun a b ha hb q => IB_inj hB ha hb q)) (List.Pairwise.filter _ List.nodup_range)).mpr (fun a => ?_)
  obtain ⟨h1, h2, h3, h4, h5, h6, h7⟩ := hB
  show a ∈ listOf (X 20) N ↔ a ∈ goL (X 18) E
  rw [lo_mem, go_mem]
  constructor
  · rintro ⟨r, hr, e⟩
    obtain ⟨w, a1, a2, a3, a4⟩ := h5 r hr
    rw [a2, ix_nI (by omega)] at e
    subst e
    exact ⟨a1, a4⟩
  · rintro ⟨c1, c2⟩
    obtain ⟨r, a1, a2⟩ := h6 a c1 c2
    exact ⟨r, a1, by rw [a2, ix_nI (by omega)]⟩
theorem mnS_l (st wi bd : Nat → Int32) (s : Int32) : ∀ n, mnS st wi bd s n = lsum (fun w => if st w = s then wi w else 0) (listOf bd n)
  | 0 => rfl
  | n + 1 => by
    rw [lo_succ, lsum_snoc, ← mnS_l st wi bd s n]
    show (if st (ix (bd n)) = s then mnS st wi bd s n + wi (ix (bd n)) else mnS st wi bd s n) = mnS st wi bd s n + (if st (ix (bd n)) = s then wi (ix (bd n)) else 0)
    by_cases e : st (ix (bd n)) = s
    · rw [if_pos e, if_pos e]
    · rw [if_neg e, if_neg e, Int32.add_zero]
theorem mnC_l (st bd : Nat → Int32) (s : Int32) : ∀ n, mnC st bd s n = lsum (fun w => if st w = s then 1 else 0) (listOf bd n)
  | 0 => rfl
  | n + 1 => by
    rw [lo_succ, lsum_snoc, ← mnC_l st bd s n]
    show (if st (ix (bd n)) = s then mnC st bd s n + 1 else mnC st bd s n) = mnC st bd s n + (if st (ix (bd n)) = s then 1 else 0)
    by_cases e : st (ix (bd n)) = s
    · rw [if_pos e, if_pos e]
    · rw [if_neg e, if_neg e, Int32.add_zero]
theorem go_sum (hl : Nat → Int32) (g : Nat → Int32) (n : Nat) : lsum g (goL hl (n + 1)) = lsum g (goL hl n) + (if hl n = 0 then g n else 0) := by
  rw [go_succ]
  by_cases e : hl n = 0
  · rw [if_pos e, if_pos e, lsum_snoc]
  · rw [if_neg e, if_neg e, List.append_nil, Int32.add_zero]
theorem mmS_l (hl st wi : Nat → Int32) (s : Int32) : ∀ n, mmS hl st wi s n = lsum (fun w => if st w = s then wi w else 0) (goL hl n)
  | 0 => rfl
  | n + 1 => by
    rw [go_sum, ← mmS_l hl st wi s n]; rfl
theorem mmC_l (hl st : Nat → Int32) (s : Int32) : ∀ n, mmC hl st s n = lsum (fun w => if st w = s then 1 else 0) (goL hl n)
  | 0 => rfl
  | n + 1 => by
    rw [go_sum, ← mmC_l hl st s n]; rfl
theorem law_mean {k : Nat} {X M : St} (h : Rel k X M) (s : Int32) (G H : Gx) : ∃ PX PM : Int32 → St → Prop, (∀ l D, Ci l yX8_mean cX8_mean 6 (some .int) 1 (xw G) D (tyG G) [.ref (G.1 0), .int s] X PX) ∧ (∀ l D, Ci l yX9_mean cX9_mean 6 (some .int) 1 (mw H) D (tyG H) [.ref (H.1 0), .int s] M PM) ∧ ∀ r X1 r2 M1, PX r X1 → PM r2 M1 → r = r2 ∧ Rel (k + 1) X1 M1 := by
  obtain ⟨E, N, B, d, D, l, L, L2, W, P, hq, hB, hS, hW, hT, hMt, hC, hRa, hRb, hRc, hP⟩ := id h
  refine ⟨_, _, fun l D => c_X8_mean l D G N X s hB.2.2.2.1 (Nat.le_trans hB.2.1 hB.1) (IB_in hB), fun l D => c_X9_mean l D H E M s ((congrFun (rq_ever hq) 0).symm.trans hB.2.2.1) hB.1, mk2 (?_) (?_)⟩
  · unfold v_mean vM_mean
    rw [mnC_l, mnS_l, mmC_l, mmS_l, ← rq_gone hq, ← rq_stable hq, ← rq_wins hq, ← lsum_perm (bd_perm hB), ← lsum_perm (bd_perm hB), grp_eq]
  · unfold s_mean sM_mean
    rw [mnC_l, mmC_l, ← rq_gone hq, ← rq_stable hq, ← lsum_perm (bd_perm hB), grp_eq]
    by_cases h1 : vin s 0 7 = 0
    · rw [if_pos h1, if_pos h1]; exact Rel_mono h
    · rw [if_neg h1, if_neg h1]
      by_cases h2 : lsum (fun w => if (X 11) w = s then 1 else 0) (listOf (X 20) N) = 0
      · rw [if_pos h2, if_pos h2]; exact Rel_found 4 h
      · rw [if_neg h2, if_neg h2]; exact Rel_mono h

theorem law_leaders {k : Nat} {X M : St} (h : Rel k X M) (G H : Gx) : ∃ PX PM : Int32 → St → Prop, (∀ l D, Ci l yX8_leaders cX8_leaders 5 (some .int) 2 (xw G) D (tyG G) [.ref (G.1 0)] X PX) ∧ (∀ l D, Ci l yX9_leaders cX9_leaders 1 (some .int) 1 (mw H) D (tyG H) [.ref (H.1 0)] M PM) ∧ ∀ r X1 r2 M1, PX r X1 → PM r2 M1 → r = r2 ∧ Rel (k + 1) X1 M1 := by
  obtain ⟨E, N, B, d, D, l, L, L2, W, P, hq, hB, hS, hW, hT, hMt, hC, hRa, hRb, hRc, hP⟩ := id h
  refine ⟨_, _, fun l D => c_X8_leaders l D G N X  hB.2.2.2.1 (Nat.le_trans hB.2.1 hB.1) (IB_in hB), fun l D => c_X9_leaders l D H N M  ((congrFun (rq_standing hq) 0).symm.trans hB.2.2.2.1) (Nat.le_trans hB.2.1 hB.1) (rq_board hq ▸ IB_in hB), mk2 (?_) (?_)⟩
  · unfold v_leaders vM_leaders
    rw [rq_going hq, rq_wins hq, rq_board hq]
  · exact Rel_mono h

def IP0 (X M : St) (P : Nat) : Prop := (X 117 0) = nI P ∧ P ≤ 16 ∧ (∀ r, r < P → vp_in ((X 42) r) 16) ∧ ((X 118 0) = 0 → P = 0) ∧ ((X 104 0) = 0 → P ≤ 1) ∧ (M 117 0) = nI P
theorem Rel_crown {k : Nat} {X M : St} {E N B d D l L L2 W P : Nat} (hq : RQ X M) (hB : IB X E N) (hS : IS X M) (hW : IW X k) (hT : IT X B d D l) (hMt : IMt X B) (hC : IC X L) (hRa : IRa X M E) (hRb : IRb X L2 W) (hRc : IRc X E N l W) (hP : IP0 X M P) : Rel k (s_crown X) (sM_left M) := by
  unfold s_crown sM_left
  rw [hP.1, hP.2.2.2.2.2]
  by_cases e : P = 1
  · subst e
    rw [if_pos (show nI 1 = 1 from rfl), if_pos (show nI 1 = 1 from rfl)]
    exact ⟨E, N, B, d, D, l, L, L2, W, 1, (RQ_mk (@rq_latest X M hq) (@rq_times X M hq) (@rq_ever X M hq) (@rq_standing X M hq) (@rq_kind X M hq) (@rq_stable X M hq) (@rq_kin X M hq) (@rq_wins X M hq) (@rq_losses X M hq) (by show upd (X 16) (ix (X 42 0)) (X 16 (ix (X 42 0)) + 1) = upd (M 9) (ix (M 33 0)) (M 9 (ix (M 33 0)) + 1); rw [rq_titles hq, rq_row hq]) (@rq_marks X M hq) (@rq_gone X M hq) (@rq_away X M hq) (@rq_board X M hq) (@rq_ssize X M hq) (@rq_teller X M hq) (@rq_going X M hq) (@rq_days X M hq) (@rq_drawn X M hq) (@rq_bouts X M hq) (@rq_lacking X M hq) (@rq_cost X M hq) (@rq_satOut X M hq) (@rq_day X M hq) (@rq_upper X M hq) (@rq_lower X M hq) (@rq_winner X M hq) (@rq_lines X M hq) (@rq_low X M hq) (@rq_high X M hq) (@rq_up X M hq) (@rq_wtimes X M hq) (@rq_fresh X M hq) (@rq_linesThen X M hq) (@rq_former X M hq) (@rq_row X M hq) (@rq_begun X M hq) (by show upd (X 119) 0 (X 42 0) = upd (M 118) 0 (M 33 0); rw [rq_holder hq, rq_row hq])), hB, IS_cg hS rfl rfl (i4 rfl rfl rfl rfl) rfl, hW, hT, hMt, hC, hRa, hRb, hRc, ⟨hP.1, hP.2.1, hP.2.2.1, hP.2.2.2.1, hP.2.2.2.2.1, rfl⟩⟩
  · have hne : ¬ nI P = 1 := fun q => e ((nI_eq (b := 1) (by have := hP.2.1; omega) (by decide)).mp q)
    rw [if_neg hne, if_neg hne]
    exact ⟨E, N, B, d, D, l, L, L2, W, P, hq, hB, hS, hW, hT, hMt, hC, hRa, hRb, hRc, hP.1, hP.2.1, hP.2.2.1, hP.2.2.2.1, hP.2.2.2.2.1, by rw [if_neg e]; exact hP.2.2.2.2.2⟩
theorem left_v {M : St} {P : Nat} (h : (M 117 0) = nI P) (h16 : P ≤ 16) : vM_left M = nI P := by
  unfold vM_left
  rw [h]
  by_cases e : nI P = 1
  · rw [if_pos e, e]
  · rw [if_neg e]
theorem won_in {X : St} {P : Nat} {f : Int32} (h2 : 2 ≤ P) (hR : ∀ r, r < P → vp_in ((X 42) r) 16) : vp_in (v_won X f) 16 := by
  unfold v_won
  by_cases e : f = 0
  · rw [if_pos e]; exact hR 1 (by omega)
  · rw [if_neg e]; exact hR 0 (by omega)
theorem wins_row {X : St} {P : Nat} {f : Int32} (h2 : 2 ≤ P) (hR : ∀ r, r < P → vp_in ((X 42) r) 16) : ∀ r, r < P - 1 → vp_in (upd (shf (X 42) P) (P - 2) (v_won X f) r) 16 := fun r hr => by
  by_cases e : r = P - 2
  · subst e; rw [pk_us]; exact won_in h2 hR
  · rw [pk_un e]
    unfold shf
    rw [if_pos (by omega)]; exact hR _ (by omega)
theorem nI_m2 {P : Nat} (h : 2 ≤ P) : nI P - 2 = nI (P - 2) := by
  rw [show nI P = nI (P - 2) + nI 2 by rw [nI_add]; congr 1; omega]
  exact Int32.add_sub_cancel _ _
theorem Rel_wins {k : Nat} {X M : St} {E N B d D l L L2 W P : Nat} (f : Int32) (hq : RQ X M) (hB : IB X E N) (hS : IS X M) (hW : IW X k) (hT : IT X B d D l) (hMt : IMt X B) (hC : IC X L) (hRa : IRa X M E) (hRb : IRb X L2 W) (hRc : IRc X E N l W) (hP : IP X M P) (h2 : 2 ≤ P) : Rel (k + 1) (s_crown (s_X5_settle X f)) (sM_left (sM_set M f P)) := by
  obtain ⟨p1, p2, p3, p4, p5, p6⟩ := hP
  rw [if_neg (show ¬ P = 1 by omega)] at p6
  have iP : ix (X 117 0) = P := by rw [p1]; exact ix_nI (by omega)
  have i2 : ix ((X 117 0) - 2) = P - 2 := by rw [p1, nI_m2 h2]; exact ix_nI (by omega)
  have i3 : ix ((M 117 0) - 2) = P - 2 := by rw [p6, nI_m2 h2]; exact ix_nI (by omega)
  have hw : v_won X f = vM_won M f := by unfold v_won vM_won; rw [rq_row hq]
  refine Rel_crown (P := P - 1) ((RQ_mk (@rq_latest X M hq) (@rq_times X M hq) (@rq_ever X M hq) (@rq_standing X M hq) (@rq_kind X M hq) (@rq_stable X M hq) (@rq_kin X M hq) (@rq_wins X M hq) (@rq_losses X M hq) (@rq_titles X M hq) (@rq_marks X M hq) (@rq_gone X M hq) (@rq_away X M hq) (@rq_board X M hq) (@rq_ssize X M hq) (@rq_teller X M hq) (@rq_going X M hq) (@rq_days X M hq) (@rq_drawn X M hq) (@rq_bouts X M hq) (@rq_lacking X M hq) (@rq_cost X M hq) (@rq_satOut X M hq) (@rq_day X M hq) (@rq_upper X M hq) (@rq_lower X M hq) (@rq_winner X M hq) (@rq_lines X M hq) (@rq_low X M hq) (@rq_high X M hq) (@rq_up X M hq) (@rq_wtimes X M hq) (@rq_fresh X M hq) (@rq_linesThen X M hq) (@rq_former X M hq) (by show upd (shf (X 42) (ix (X 117 0))) (ix (X 117 0 - 2)) (v_won X f) = upd (shf (M 33) P) (ix (M 117 0 - 2)) (vM_won M f); rw [iP, i2, i3, hw, rq_row hq]) (@rq_begun X M hq) (@rq_holder X M hq))) (hB) (IS_cg hS rfl rfl (i4 rfl rfl rfl rfl) rfl) (IW_mono hW) (hT) (hMt) (hC) (hRa) (hRb) (hRc) (?_)
  refine ⟨?_, by omega, ?_, fun q => ?_, fun q => ?_, ?_⟩
  · show upd (X 117) 0 (X 117 0 - 1) 0 = nI (P - 1)
    rw [pk_us, p1, nI_m1 (by omega)]
  · show ∀ r, r < P - 1 → vp_in (upd (shf (X 42) (ix (X 117 0))) (ix (X 117 0 - 2)) (v_won X f) r) 16
    rw [iP, i2]; exact wins_row h2 p3
  · exact absurd (p4 q) (by omega)
  · exact absurd (p5 q) (by omega)
  · show upd (M 117) 0 (M 117 0 - 1) 0 = nI (P - 1)
    rw [pk_us, p6, nI_m1 (by omega)]
theorem law_wins {k : Nat} {X M : St} (h : Rel k X M) (f : Int32) (G H : Gx) : ∃ PX PM : Int32 → St → Prop, (∀ l D, Ci l yX8_wins cX8_wins 2 (some .int) 2 (xw G) D (tyG G) [.ref (G.1 0), .int f] X PX) ∧ (∀ l D, Ci l yX9_wins cX9_wins 4 (some .int) 1 (mw H) D (tyG H) [.ref (H.1 0), .int f] M PM) ∧ ∀ r X1 r2 M1, PX r X1 → PM r2 M1 → r = r2 ∧ Rel (k + 1) X1 M1 := by
  obtain ⟨E, N, B, d, D, l, L, L2, W, P, hq, hB, hS, hW, hT, hMt, hC, hRa, hRb, hRc, hP⟩ := id h
  have hn16 : (if P = 1 then 0 else P) ≤ 16 := by
    by_cases e : P = 1
    · rw [if_pos e]; omega
    · rw [if_neg e]; exact hP.2.1
  have hnR : ∀ r, r < (if P = 1 then 0 else P) → vp_in ((M 33) r) 16 := fun r hr => by
    by_cases e : P = 1
    · rw [if_pos e] at hr; omega
    · rw [if_neg e] at hr; rw [← rq_row hq]; exact hP.2.2.1 r hr
  refine ⟨_, _, fun l D => c_X8_wins l D G P X f hP.1 hP.2.1 hP.2.2.1, fun l D => c_X9_wins l D H (if P = 1 then 0 else P) M f hP.2.2.2.2.2 (hn16) (hnR), mk2 (?_) (?_)⟩
  · unfold v_wins vM_wins
    by_cases h1 : P ≤ 1
    · rw [if_pos ((go_P hP.1 hP.2.1).mpr h1), if_neg (fun q => (go_M hP.2.2.2.2.2 hP.2.1).mp q h1)]
    · rw [if_neg (fun q => h1 ((go_P hP.1 hP.2.1).mp q)), if_pos ((go_M hP.2.2.2.2.2 hP.2.1).mpr h1), hP.1, nI_m1 (by omega)]
      refine (left_v (P := P - 1) ?_ (by have := hP.2.1; omega)).symm
      show upd (M 117) 0 (M 117 0 - 1) 0 = nI (P - 1)
      rw [pk_us, hP.2.2.2.2.2, if_neg (by omega), nI_m1 (by omega)]
  · unfold s_wins sM_wins
    by_cases h1 : P ≤ 1
    · rw [if_pos ((go_P hP.1 hP.2.1).mpr h1), if_neg (fun q => (go_M hP.2.2.2.2.2 hP.2.1).mp q h1)]; exact Rel_mono h
    · rw [if_neg (fun q => h1 ((go_P hP.1 hP.2.1).mp q)), if_pos ((go_M hP.2.2.2.2.2 hP.2.1).mpr h1), if_neg (show ¬ P = 1 by omega)]
      exact Rel_wins f hq hB hS hW hT hMt hC hRa hRb hRc hP (by omega)

theorem cmp_if {α : Type} {X M : St} {B d D l : Nat} (hq : RQ X M) (hT : IT X B d D l) (a b : α) : (if (M 103 0) = 0 then a else if (M 106 0) < (M 105 0) then a else if 0 < (M 108 0) then a else b) = if v_X6_isComplete X = 0 then a else b := by
  obtain ⟨t1, t2, t3, t4, t5, t6, t7, t8, t9⟩ := hT
  have hl : l < 2 ^ 31 := by
    have : ∀ n, cntN (X 26) n ≤ n := fun n => by
      induction n with
      | zero => exact Nat.le_refl _
      | succ n ih =>
        show cntN (X 26) n + (if (X 26) n = (-9) then 1 else 0) ≤ n + 1
        by_cases e : (X 26) n = (-9)
        · rw [if_pos e]; omega
        · rw [if_neg e]; omega
    have := this B
    omega
  unfold v_X6_isComplete
  rw [← rq_going hq, ← rq_drawn hq, ← rq_days hq, ← rq_lacking hq, t2, t3, t4]
  by_cases h1 : (X 104 0) = 0
  · rw [if_pos h1, if_pos h1, if_pos rfl]
  · rw [if_neg h1, if_neg h1]
    by_cases h2 : d = D
    · rw [if_pos (show nI d = nI D by rw [h2]), if_neg (show ¬ nI d < nI D from nI_nlt (by omega) (by omega))]
      by_cases h3 : l = 0
      · rw [if_neg (show ¬ 0 < nI l by rw [h3]; decide), if_pos (show nI l = 0 by rw [h3]; rfl), if_neg (by decide)]
      · rw [if_pos (show 0 < nI l from nI_lt (a := 0) (by omega) hl), if_neg (nI_ne0 (by omega) hl), if_pos rfl]
    · rw [if_pos (show nI d < nI D from nI_lt (by omega) (by omega)), if_neg (show ¬ nI d = nI D from fun q => h2 ((nI_eq (by omega) (by omega)).mp q)), if_pos rfl]
theorem cmp_go {X : St} (h : ¬ v_X6_isComplete X = 0) : ¬ (X 104 0) = 0 := fun e => h (by unfold v_X6_isComplete; rw [if_pos e])
theorem law_playOff {k : Nat} {X M : St} (h : Rel k X M) (G H : Gx) : ∃ PX PM : Int32 → St → Prop, (∀ l D, Ci l yX8_playOff cX8_playOff 4 (some .int) 2 (xw G) D (tyG G) [.ref (G.1 0)] X PX) ∧ (∀ l D, Ci l yX9_playOff cX9_playOff 3 (some .int) 1 (mw H) D (tyG H) [.ref (H.1 0)] M PM) ∧ ∀ r X1 r2 M1, PX r X1 → PM r2 M1 → r = r2 ∧ Rel (k + 1) X1 M1 := by
  obtain ⟨E, N, B, d, D, l, L, L2, W, P, hq, hB, hS, hW, hT, hMt, hC, hRa, hRb, hRc, hP⟩ := id h
  refine ⟨_, _, fun l D => c_X8_playOff l D G N X  hB.2.2.2.1 (Nat.le_trans hB.2.1 hB.1) (IB_in hB) (fun q => by rw [hP.1, hP.2.2.2.1 q]; rfl), fun l D => c_X9_playOff l D H N M  ((congrFun (rq_standing hq) 0).symm.trans hB.2.2.2.1) (Nat.le_trans hB.2.1 hB.1) (rq_board hq ▸ IB_in hB), mk2 (?_) (?_)⟩
  · unfold v_playOff vM_playOff
    rw [cmp_if hq hT, ← rq_begun hq, ← rq_standing hq]
    by_cases h1 : v_X6_isComplete X = 0
    · rw [if_pos h1, if_pos h1]
    · rw [if_neg h1, if_neg h1]
      by_cases h2 : (X 118 0) = 0
      · rw [if_pos h2, if_pos h2]
        by_cases h3 : (X 102 0) = 0
        · rw [if_pos h3, if_pos h3]
        · rw [if_neg h3, if_neg h3, rq_wins hq, rq_board hq]
          exact (left_v rfl (Nat.le_trans (plC_le _ _ _ _) (Nat.le_trans hB.2.1 hB.1))).symm
      · rw [if_neg h2, if_neg h2]
  · unfold s_playOff sM_playOff
    rw [cmp_if hq hT, ← rq_begun hq, ← rq_standing hq]
    by_cases h1 : v_X6_isComplete X = 0
    · rw [if_pos h1, if_pos h1]; exact Rel_mono h
    · rw [if_neg h1, if_neg h1]
      by_cases h2 : (X 118 0) = 0
      · rw [if_pos h2, if_pos h2]
        by_cases h3 : (X 102 0) = 0
        · rw [if_pos h3, if_pos h3]; exact Rel_mono h
        · rw [if_neg h3, if_neg h3]
          refine Rel_crown (P := plC (X 14) (X 20) (mostW (X 14) (X 20) N) N) ((RQ_mk (@rq_latest X M hq) (@rq_times X M hq) (@rq_ever X M hq) (@rq_standing X M hq) (@rq_kind X M hq) (@rq_stable X M hq) (@rq_kin X M hq) (@rq_wins X M hq) (@rq_losses X M hq) (@rq_titles X M hq) (@rq_marks X M hq) (@rq_gone X M hq) (@rq_away X M hq) (@rq_board X M hq) (@rq_ssize X M hq) (@rq_teller X M hq) (@rq_going X M hq) (@rq_days X M hq) (@rq_drawn X M hq) (@rq_bouts X M hq) (@rq_lacking X M hq) (@rq_cost X M hq) (@rq_satOut X M hq) (@rq_day X M hq) (@rq_upper X M hq) (@rq_lower X M hq) (@rq_winner X M hq) (@rq_lines X M hq) (@rq_low X M hq) (@rq_high X M hq) (@rq_up X M hq) (@rq_wtimes X M hq) (@rq_fresh X M hq) (@rq_linesThen X M hq) (@rq_former X M hq) (by show plR (X 14) (X 20) (mostW (X 14) (X 20) N) (X 42) N = plR (M 7) (M 11) (mostW (M 7) (M 11) N) (M 33) N; rw [rq_wins hq, rq_board hq, rq_row hq]) (by show upd (X 118) 0 1 = upd (M 116) 0 1; rw [rq_begun hq]) (@rq_holder X M hq))) (hB) (IS_cg hS rfl rfl (i4 rfl rfl rfl rfl) rfl) (IW_mono hW) (hT) (hMt) (hC) (hRa) (hRb) (hRc) (?_)
          refine ⟨rfl, Nat.le_trans (plC_le _ _ _ _) (Nat.le_trans hB.2.1 hB.1), plR_in N (IB_in hB), fun q => ?_, fun q => ?_, ?_⟩
          · exact absurd (show (1 : Int32) = 0 from q) (by decide)
          · exact absurd q (cmp_go h1)
          · rw [rq_wins hq, rq_board hq]; rfl
      · rw [if_neg h2, if_neg h2]; exact Rel_mono h

theorem fld_cg {f g : Nat → Int32} (h : Int64) : ∀ n, (∀ k, k < n → f k = g k) → fld f h n = fld g h n
  | 0, _ => rfl
  | n + 1, hk => by
    show 31 * fld f h n + (f n).toInt64 = 31 * fld g h n + (g n).toInt64
    rw [fld_cg h n (fun k h1 => hk k (by omega)), hk n (by omega)]
theorem dW_eq {X M : St} {E N : Nat} (hq : RQ X M) (hB : IB X E N) : ∀ n, n ≤ E → dgW X n = dMW M N n
  | 0, _ => rfl
  | n + 1, hn => by
    show v_withW X (dgW X n) (nI n) = (if (M 5) n = 0 then fld (fun k => vM_toldOf M (nI n) (nI k) N) (dMW M N n) 7 else 31 * dMW M N n - 1)
    have := hB.1
    rw [dW_eq hq hB n (by omega)]
    unfold v_withW
    rw [ix_nI (by omega), ← rq_gone hq]
    by_cases e : (X 18) n = 0
    · rw [if_pos e, if_pos e]
      refine fld_cg _ 7 (fun k _ => fact_eq hq hB ?_)
      unfold v_ref
      rw [ix_nI (by omega), if_pos e, if_neg ?_]
      unfold v_X3_knows
      rw [if_neg (nI_pos (by omega)), hB.2.2.1, if_neg (nI_ge (by omega) (by omega))]
      decide
    · rw [if_neg e, if_neg e]
theorem dB_eq {X M : St} (hq : RQ X M) (h : Int64) : ∀ n, dgB X h n = dMB M h n
  | 0 => rfl
  | n + 1 => by
    show fld (fun k => v_X6_fact X (nI n) (nI k)) (dgB X h n) 4 = fld (fun k => vM_boutTold M (nI n) (nI k)) (dMB M h n) 4
    rw [dB_eq hq h n]
    refine fld_cg _ 4 (fun k _ => ?_)
    unfold v_X6_fact vM_boutTold
    rw [rq_day hq, rq_upper hq, rq_lower hq, rq_winner hq]
theorem dS_eq {X M : St} (hq : RQ X M) (hS : IS X M) (h : Int64) : ∀ n, n ≤ 4 → dgS X h n = dMS M h n
  | 0, _ => rfl
  | n + 1, hn => by
    show fld (X (43 + ix (nI n))) (31 * dgS X h n + ((X 22) (ix (nI n))).toInt64) (ix ((X 22) (ix (nI n)))) = fld (fun k => (M 13) (16 * n + k)) (31 * dMS M h n + ((M 12) n).toInt64) (ix ((M 12) n))
    rw [ix_nI (by omega), dS_eq hq hS h n (by omega), ← rq_ssize hq]
    refine fld_cg _ _ (fun k hk => hS.2.2.1 n k (by omega) ?_)
    rcases hS.1 n (by omega) with e | ⟨z, hz, e⟩
    · have e0 : ix (-1) = 0 := by decide
      rw [e, e0] at hk; omega
    · rw [e, ix_nI (by omega)] at hk; omega
theorem tally_eq {X M : St} (hq : RQ X M) (w : Int32) : v_tally X w = vM_count M w := by
  unfold v_tally vM_count
  rw [rq_ever hq, rq_standing hq, rq_drawn hq, rq_going hq, rq_days hq, rq_bouts hq, rq_lacking hq, rq_lines hq, rq_wtimes hq]
theorem law_digest {k : Nat} {X M : St} (h : Rel k X M) (G H : Gx) : ∃ PX PM : Int64 → St → Prop, (∀ l D, Cl l yX8_digest cX8_digest 5 (some .long) 2 (xw G) D (tyG G) [.ref (G.1 0)] X PX) ∧ (∀ l D, Cl l yX9_digest cX9_digest 5 (some .long) 2 (mw H) D (tyG H) [.ref (H.1 0)] M PM) ∧ ∀ r X1 r2 M1, PX r X1 → PM r2 M1 → r = r2 ∧ Rel (k + 1) X1 M1 := by
  obtain ⟨E, N, B, d, D, l, L, L2, W, P, hq, hB, hS, hW, hT, hMt, hC, hRa, hRb, hRc, hP⟩ := id h
  refine ⟨_, _, fun l D => c_X8_digest l D G E N B X  hB.2.2.1 hB.1 hB.2.2.2.1 (Nat.le_trans hB.2.1 hB.1) (IB_in hB) hT.1 (IT_120 hT) hS.1, fun l D => c_X9_digest l D H E N B M  ((congrFun (rq_ever hq) 0).symm.trans hB.2.2.1) hB.1 ((congrFun (rq_standing hq) 0).symm.trans hB.2.2.2.1) (Nat.le_trans hB.2.1 hB.1) (rq_board hq ▸ IB_in hB) ((congrFun (rq_bouts hq) 0).symm.trans hT.1) (IT_120 hT) (rq_ssize hq ▸ hS.1), mk2l (?_) (?_)⟩
  · unfold v_digest vM_digest
    rw [dS_eq hq hS _ 4 (Nat.le_refl _), dB_eq hq, dW_eq hq hB E (Nat.le_refl _), rq_board hq, rq_holder hq, fld_cg (f := fun k => v_tally X (nI (k + 2))) (g := fun k => vM_count M (nI (k + 2))) _ 6 (fun k _ => tally_eq hq _)]
  · exact Rel_mono h
