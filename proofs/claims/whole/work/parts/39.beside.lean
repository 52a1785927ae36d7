theorem cnt_0 {f : Nat → Int32} : ∀ B, cntN f B = 0 → ∀ k, k < B → ¬ f k = (-9)
  | 0, _, k, hk => by omega
  | B + 1, h, k, hk => by
    have h2 : cntN f B + (if f B = (-9) then 1 else 0) = 0 := h
    by_cases e : k = B
    · subst e
      intro q
      rw [if_pos q] at h2
      omega
    · exact cnt_0 B (by omega) k (by omega)
theorem add_m1 (a : Int32) : a - 1 = a + (-1) := Int32.sub_eq_add_neg a 1
theorem swo_eq {X M : St} {B d D l : Nat} (hq : RQ X M) (hT : IT X B d D l) (hl : l = 0) {b : Int32} (hb : ix b < B) {v : Nat} (hv : v < 16) : v_sw X (nI v) b = bsc M b v := by
  obtain ⟨t1, t2, t3, t4, t5, t6, t7, t8, t9⟩ := hT
  obtain ⟨p, q, p1, q1, hne, p2, q2, hw⟩ := t9 (ix b) hb
  have h9 := cnt_0 (f := X 26) B (by rw [← t8]; exact hl) (ix b) hb
  unfold v_sw bsc v_X6_loserOf
  rw [ix_nI (by omega), ← rq_wins hq, ← rq_losses hq, ← rq_upper hq, ← rq_lower hq, ← rq_winner hq, p2, q2]
  have npq : ¬ nI q = nI p := fun e => hne ((nI_eq (by omega) (by omega)).mp e).symm
  rcases hw with e | e | e
  · exact absurd e h9
  · rw [e, if_pos rfl]
    by_cases c1 : nI v = nI p
    · rw [if_pos c1, if_pos c1, if_pos c1, add_m1]
    · rw [if_neg c1, if_neg c1]
      by_cases c2 : nI v = nI q
      · rw [if_pos c2, if_pos c2, if_neg c1]
      · rw [if_neg c2, if_neg c2, Int32.add_zero]
  · rw [e, if_neg npq]
    by_cases c2 : nI v = nI q
    · have c1 : ¬ nI v = nI p := fun h => npq (c2.symm.trans h)
      rw [if_pos c2, if_neg c1, if_pos c2, if_pos c2, add_m1]
    · rw [if_neg c2]
      by_cases c1 : nI v = nI p
      · rw [if_pos c1, if_pos c1, if_neg c2]
      · rw [if_neg c1, if_neg c1, if_neg c2, Int32.add_zero]
theorem bsA_fo (X : St) (b : Int32) (L : Nat) : ∀ n, bsA X b L n = fo (X 35) (fun j => 2 * ((X 36) (ix ((X 35) j)) - v_bst X ((X 35) j) b L) - v_half (v_bst X ((X 35) j) b L)) (X 41) n
  | 0 => rfl
  | n + 1 => by
    show upd (bsA X b L n) _ _ = upd (fo (X 35) _ (X 41) n) _ _
    rw [bsA_fo X b L n]
theorem fm_inj {X : St} {E N : Nat} (hB : IB X E N) (hF : ∀ r, r < N → ∃ w, w < E ∧ (X 35) r = nI w ∧ (X 36) w = nI r ∧ (X 18) w = 0) : ∀ a b, a < N → b < N → ix ((X 35) a) = ix ((X 35) b) → a = b := fun a b ha hb e => by
  have := hB.1
  have := hB.2.1
  obtain ⟨w, a1, a2, a3, -⟩ := hF a ha
  obtain ⟨v, b1, b2, b3, -⟩ := hF b hb
  rw [a2, b2, ix_nI (by omega), ix_nI (by omega)] at e
  subst e
  exact (nI_eq (by omega) (by omega)).mp (a3.symm.trans b3)
theorem fm_perm {X : St} {E N : Nat} (hB : IB X E N) (hF : ∀ r, r < N → ∃ w, w < E ∧ (X 35) r = nI w ∧ (X 36) w = nI r ∧ (X 18) w = 0) (hG : ∀ w, w < E → (X 18) w = 0 → ∃ r, r < N ∧ (X 35) r = nI w) : (listOf (X 35) N).Perm (listOf (X 20) N) := by
  have h16 := hB.1
  refine List.Perm.trans ?_ (bd_perm hB).symm
  refine (List.perm_ext_iff_of_nodup (lo_nodup (fm_inj hB hF)) (List.Pairwise.filter _ List.nodup_range)).mpr (fun a => ?_)
  show a ∈ listOf (X 35) N ↔ a ∈ goL (X 18) E
  rw [lo_mem, go_mem]
  constructor
  · rintro ⟨r, hr, e⟩
    obtain ⟨w, a1, a2, a3, a4⟩ := hF r hr
    rw [a2, ix_nI (by omega)] at e
    subst e
    exact ⟨a1, a4⟩
  · rintro ⟨c1, c2⟩
    obtain ⟨r, a1, a2⟩ := hG a c1 c2
    exact ⟨r, a1, by rw [a2, ix_nI (by omega)]⟩
theorem bs_ord {X M : St} {E N B d D l L : Nat} {b : Int32} (hq : RQ X M) (hB : IB X E N) (hT : IT X B d D l) (hl : l = 0) (hb : ix b < B) (hF : ∀ r, r < N → ∃ w, w < E ∧ (X 35) r = nI w ∧ (X 36) w = nI r ∧ (X 18) w = 0) : ∀ r, r < N → bs1 X b N L 40 r = bm2 M b L N 30 r := fun r hr => by
  have h16 := hB.1
  have inj := fm_inj hB hF
  show arrL (bsA X b L N) (X 35) (X 40) N r = odL (bm1 M b 16) (M 32) (bsZ M b 16) L N r
  refine sort_eq (N := N) (fun r hr => by rw [rq_former hq]) inj (fun r hr => ?_) N (Nat.le_refl _) r hr
  obtain ⟨w, a1, a2, a3, a4⟩ := hF r hr
  rw [← rq_former hq, bsA_fo, fo_at (g := fun j => 2 * ((X 36) (ix ((X 35) j)) - v_bst X ((X 35) j) b L) - v_half (v_bst X ((X 35) j) b L)) N inj r hr]
  show 2 * (X 36 (ix (X 35 r)) - v_bst X (X 35 r) b L) - v_half (v_bst X (X 35 r) b L) = _
  have hs : v_bst X (X 35 r) b L = oaU (bm1 M b 16) (X 35 r) (bsZ M b 16) L := by
    unfold v_bst oaU
    rw [a2]
    have e : bsZ M b 16 (ix (nI w)) = bsc M b w := by
      rw [ix_nI (by omega)]; exact if_pos (by omega)
    rw [e, ← swo_eq hq hT hl hb (by omega), rq_low hq, rq_high hq]
    exact steps_eq (X := X) (M := bm1 M b 16) (@rq_up X M hq) (@rq_kind X M hq) (nI w) _
  rw [hs, half_eq, a2, ix_nI (by omega), a3]
theorem law_beside {k : Nat} {X M : St} (h : Rel k X M) (b : Int32) (G H : Gx) : ∃ PX PM : Int32 → St → Prop, (∀ l D, Ci l yX8_beside cX8_beside 5 (some .int) 2 (xw G) D (tyG G) [.ref (G.1 0), .int b] X PX) ∧ (∀ l D, Ci l yX9_beside cX9_beside 4 (some .int) 3 (mw H) D (tyG H) [.ref (H.1 0), .int b] M PM) ∧ ∀ r X1 r2 M1, PX r X1 → PM r2 M1 → r = r2 ∧ Rel (k + 1) X1 M1 := by
  obtain ⟨E, N, B, d, D, l, L, L2, W, P, hq, hB, hS, hW, hT, hMt, hC, hRa, hRb, hRc, hP⟩ := id h
  refine ⟨_, _, fun l D => c_X8_beside l D G B W L2 X b hT.1 (IT_120 hT) hRb.2.2.1 hRb.2.2.2.1 (fun r hr => hRb.2.2.2.2 r (by have := hRb.2.2.2.1; omega)) hRb.1 hRb.2.1, fun l D => c_X9_beside l D H B L2 N M b ((congrFun (rq_bouts hq) 0).symm.trans hT.1) (IT_120 hT) ((congrFun (rq_standing hq) 0).symm.trans hB.2.2.2.1) (Nat.le_trans hB.2.1 hB.1) (fun r hr => by rw [← rq_former hq]; exact hRb.2.2.2.2 r (by have := hB.1; have := hB.2.1; omega)) ((congrFun (rq_linesThen hq) 0).symm.trans hRb.1) hRb.2.1, mk2 (?_) (?_)⟩
  · unfold v_beside vM_beside
    rw [bkn_eq hq hT, ← rq_fresh hq]
    by_cases h1 : vin b 0 ((M 107 0) - 1) = 0
    · rw [if_pos h1, if_pos h1]
    · rw [if_neg h1, if_neg h1]
      by_cases h2 : (X 116 0) = 0
      · rw [if_pos h2, if_pos h2]
      · rw [if_neg h2, if_neg h2]
        obtain ⟨hl, hWN, hF, hG, hA⟩ := hRc h2
        rw [hWN]
        have hb : ix b < B := bknows_lt (X := X) (b := b) (by rw [bkn_eq hq hT]; exact h1) hT.1 (IT_120 hT)
        have hord : ∀ r, r < N → bs1 X b N L2 40 r = bm2 M b L2 N 30 r := bs_ord hq hB hT hl hb hF
        have hpf := fm_perm hB hF hG
        have hpo : (listOf (bs1 X b N L2 40) N).Perm (listOf (X 35) N) := arrL_perm (ai := bsA X b L2 N) (fm := X 35) (o := X 40) N
        have hp := hpo.trans hpf
        have oinj := ord_nodup hB hp
    
        rw [difL_l, ← ctL_cg N hord, ctL_l (T := recB (bs1 X b N L2 40) (X 39) N) N (fun r hr => recB_at oinj hr), ← lsum_perm hpo]
        refine lsum_cg _ (fun a ha => ?_)
        obtain ⟨r, r1, r2⟩ := lo_mem.mp ha
        have hm := ord_mem hB hp r1
        rw [r2] at hm
        have e := (hRa.1 a (by have := hB.1; omega) hm.2).2.2.1
        rw [← e]
        by_cases c : recB (bs1 X b N L2 40) (X 39) N a = X 37 a
        · rw [if_pos c, if_pos c.symm]
        · rw [if_neg c, if_neg (fun q => c q.symm)]
  · unfold s_beside sM_beside
    rw [bkn_eq hq hT, ← rq_fresh hq]
    by_cases h1 : vin b 0 ((M 107 0) - 1) = 0
    · rw [if_pos h1, if_pos h1]; exact Rel_mono h
    · rw [if_neg h1, if_neg h1]
      by_cases h2 : (X 116 0) = 0
      · rw [if_pos h2, if_pos h2]; exact Rel_mono h
      · rw [if_neg h2, if_neg h2]
        obtain ⟨hl, hWN, hF, hG, hA⟩ := hRc h2
        rw [hWN]
        have hb : ix b < B := bknows_lt (X := X) (b := b) (by rw [bkn_eq hq hT]; exact h1) hT.1 (IT_120 hT)
        have hord : ∀ r, r < N → bs1 X b N L2 40 r = bm2 M b L2 N 30 r := bs_ord hq hB hT hl hb hF
        have hpf := fm_perm hB hF hG
        have hpo : (listOf (bs1 X b N L2 40) N).Perm (listOf (X 35) N) := arrL_perm (ai := bsA X b L2 N) (fm := X 35) (o := X 40) N
        have hp := hpo.trans hpf
        have oinj := ord_nodup hB hp
        have hres : Rel (k + 1) (sr (bs1 X b N L2) 39 (recB (bs1 X b N L2 40) (X 39) N)) (sr (bm2 M b L2 N) 28 (recB (bm2 M b L2 N 30) (zr (M 28) (-9) 16) N)) := ⟨E, N, B, d, D, l, L, L2, W, P, (RQ_mk (@rq_latest X M hq) (@rq_times X M hq) (@rq_ever X M hq) (@rq_standing X M hq) (@rq_kind X M hq) (@rq_stable X M hq) (@rq_kin X M hq) (@rq_wins X M hq) (@rq_losses X M hq) (@rq_titles X M hq) (@rq_marks X M hq) (@rq_gone X M hq) (@rq_away X M hq) (@rq_board X M hq) (@rq_ssize X M hq) (@rq_teller X M hq) (@rq_going X M hq) (@rq_days X M hq) (@rq_drawn X M hq) (@rq_bouts X M hq) (@rq_lacking X M hq) (@rq_cost X M hq) (@rq_satOut X M hq) (@rq_day X M hq) (@rq_upper X M hq) (@rq_lower X M hq) (@rq_winner X M hq) (@rq_lines X M hq) (@rq_low X M hq) (@rq_high X M hq) (@rq_up X M hq) (@rq_wtimes X M hq) (@rq_fresh X M hq) (@rq_linesThen X M hq) (@rq_former X M hq) (@rq_row X M hq) (@rq_begun X M hq) (@rq_holder X M hq)), hB, IS_cg hS rfl rfl (i4 rfl rfl rfl rfl) rfl, IW_mono hW, hT, hMt, hC, ⟨fun w hw hg => ⟨(hRa.1 w hw hg).1, (hRa.1 w hw hg).2.1, (hRa.1 w hw hg).2.2.1, by
          show recB (bs1 X b N L2 40) (X 39) N w = recB (bm2 M b L2 N 30) (zr (M 28) (-9) 16) N w
          refine recB_two hord oinj ?_
          by_cases c : w < E
          · exact Or.inl (ord_sur hB hp c hg)
          · exact Or.inr ((hRa.2 w (by omega) hw).2.2.2.trans (if_pos hw).symm)⟩, fun w h1 h2 => ⟨(hRa.2 w h1 h2).1, (hRa.2 w h1 h2).2.1, (hRa.2 w h1 h2).2.2.1, by
          show recB (bs1 X b N L2 40) (X 39) N w = (-9)
          rw [recB_no (fun r hr q => by have := (ord_mem hB hp hr).1; omega)]
          exact (hRa.2 w h1 h2).2.2.2⟩⟩, hRb, hRc, hP⟩
        exact hres
