theorem cnt_upd {f : Nat → Int32} {b : Nat} {v : Int32} (hf : f b = (-9)) (hv : ¬ v = (-9)) : ∀ B, b < B → cntN (upd f b v) B + 1 = cntN f B
  | 0, h => by omega
  | B + 1, h => by
    unfold cntN
    by_cases e : B = b
    · subst e
      rw [pk_us, if_neg hv, if_pos hf]
      have : ∀ n, n ≤ B → cntN (upd f B v) n = cntN f n := fun n => by
        induction n with
        | zero => intro _; rfl
        | succ n ih => intro hn; unfold cntN; rw [ih (by omega), pk_un (by omega)]
      rw [this B (Nat.le_refl _)]
    · rw [pk_un e]
      have := cnt_upd hf hv B (by omega)
      omega
theorem won_eq {X M : St} (hq : RQ X M) (b u : Int32) : v_wonB X b u = vM_wonB M b u := by
  unfold v_wonB vM_wonB
  rw [rq_upper hq, rq_lower hq]
theorem los_eq {X M : St} (hq : RQ X M) {b u : Int32} (hne : ¬ (X 25) (ix b) = (X 24) (ix b)) : v_loser X b u = vM_losB M b u := by
  have e : v_loser X b u = if v_wonB X b u = (X 24) (ix b) then (X 25) (ix b) else (X 24) (ix b) := by
    show (if upd (X 26) (ix b) (v_wonB X b u) (ix b) = (X 24) (ix b) then (X 25) (ix b) else (X 24) (ix b)) = _
    rw [pk_us]
  rw [e]
  unfold v_wonB vM_losB
  rw [← rq_upper hq, ← rq_lower hq]
  by_cases h : u = 0
  · rw [if_pos h, if_neg hne, if_pos h]
  · rw [if_neg h, if_pos rfl, if_neg h]
theorem law_result {k : Nat} {X M : St} (h : Rel k X M) (b : Int32) (u : Int32) (G H : Gx) : ∃ PX PM : Int32 → St → Prop, (∀ l D, Ci l yX8_result cX8_result 4 (some .int) 1 (xw G) D (tyG G) [.ref (G.1 0), .int b, .int u] X PX) ∧ (∀ l D, Ci l yX9_result cX9_result 3 (some .int) 1 (mw H) D (tyG H) [.ref (H.1 0), .int b, .int u] M PM) ∧ ∀ r X1 r2 M1, PX r X1 → PM r2 M1 → r = r2 ∧ Rel (k + 1) X1 M1 := by
  obtain ⟨E, N, B, d, D, l, L, L2, W, P, hq, hB, hS, hW, hT, hMt, hC, hRa, hRb, hRc, hP⟩ := id h
  refine ⟨_, _, fun l D => c_X8_result l D G B X b u hT.1 (IT_120 hT) (IT_u hT), fun l D => c_X9_result l D H B M b u ((congrFun (rq_bouts hq) 0).symm.trans hT.1) (IT_120 hT) (IT_um hq hT), mk2 (?_) (?_)⟩
  · unfold v_result vM_result
    rw [bkn_eq hq hT, rq_winner hq]
  · unfold s_result sM_result
    rw [bkn_eq hq hT, ← rq_winner hq]
    by_cases h1 : vin b 0 ((M 107 0) - 1) = 0
    · rw [if_pos h1, if_pos h1]; exact Rel_mono h
    · rw [if_neg h1, if_neg h1]
      by_cases h2 : (X 26) (ix b) = (-9)
      · rw [if_pos h2, if_pos h2]
        have hb : ix b < B := bknows_lt (X := X) (b := b) (by rw [bkn_eq hq hT]; exact h1) hT.1 (IT_120 hT)
        obtain ⟨t1, t2, t3, t4, t5, t6, t7, t8, t9⟩ := id hT
        obtain ⟨p, q, p1, q1, hne, p2, q2, -⟩ := t9 (ix b) hb
        have hne2 : ¬ (X 25) (ix b) = (X 24) (ix b) := fun e => by
          rw [p2, q2] at e
          exact hne ((nI_eq (by omega) (by omega)).mp e).symm
        have hw : v_wonB X b u = nI p ∨ v_wonB X b u = nI q := by
          unfold v_wonB
          rw [p2, q2]
          by_cases c : u = 0
          · rw [if_pos c]; exact Or.inr rfl
          · rw [if_neg c]; exact Or.inl rfl
        have hw9 : ¬ v_wonB X b u = (-9) := by
          rcases hw with e | e <;> rw [e]
          · exact nI_m9 (by omega)
          · exact nI_m9 (by omega)
        have hct := cnt_upd h2 hw9 B hb
        have hl : 0 < l := by omega
        have hRes : Rel (k + 1) (ux (s_res3 X b u) 15 (ix (v_loser X b u)) ((X 15) (ix (v_loser X b u)) + 1)) (sM_res M b u) := ⟨E, N, B, d, D, l - 1, L, L2, W, P, (RQ_mk (@rq_latest X M hq) (@rq_times X M hq) (@rq_ever X M hq) (@rq_standing X M hq) (@rq_kind X M hq) (@rq_stable X M hq) (@rq_kin X M hq) (by show upd (X 14) (ix (v_wonB X b u)) (X 14 (ix (v_wonB X b u)) + 1) = upd (M 7) (ix (vM_wonB M b u)) (M 7 (ix (vM_wonB M b u)) + 1); rw [won_eq hq, rq_wins hq]) (by show upd (X 15) (ix (v_loser X b u)) (X 15 (ix (v_loser X b u)) + 1) = upd (M 8) (ix (vM_losB M b u)) (M 8 (ix (vM_losB M b u)) + 1); rw [los_eq hq hne2, rq_losses hq]) (@rq_titles X M hq) (@rq_marks X M hq) (@rq_gone X M hq) (@rq_away X M hq) (@rq_board X M hq) (@rq_ssize X M hq) (@rq_teller X M hq) (@rq_going X M hq) (@rq_days X M hq) (@rq_drawn X M hq) (@rq_bouts X M hq) (by show upd (X 108) 0 ((X 108 0) - 1) = upd (M 108) 0 ((M 108 0) - 1); rw [rq_lacking hq]) (@rq_cost X M hq) (@rq_satOut X M hq) (@rq_day X M hq) (@rq_upper X M hq) (@rq_lower X M hq) (by show upd (X 26) (ix b) (v_wonB X b u) = upd (M 18) (ix b) (vM_wonB M b u); rw [rq_winner hq, won_eq hq]) (@rq_lines X M hq) (@rq_low X M hq) (@rq_high X M hq) (@rq_up X M hq) (@rq_wtimes X M hq) (@rq_fresh X M hq) (@rq_linesThen X M hq) (@rq_former X M hq) (@rq_row X M hq) (@rq_begun X M hq) (@rq_holder X M hq)), hB, IS_cg hS rfl rfl (i4 rfl rfl rfl rfl) rfl, fun w => by
            obtain ⟨a, a1, a2⟩ := hW w
            show ∃ a, a ≤ k + 1 ∧ upd (X 14) (ix (v_wonB X b u)) (X 14 (ix (v_wonB X b u)) + 1) w = nI a
            by_cases e : w = ix (v_wonB X b u)
            · rw [← e, pk_us, a2, nI_1]; exact ⟨a + 1, by omega, rfl⟩
            · rw [pk_un e]; exact ⟨a, by omega, a2⟩, ⟨t1, t2, t3, by show upd (X 108) 0 ((X 108 0) - 1) 0 = nI (l - 1); rw [pk_us, t4, nI_m1 hl], t5, t6, t7, by show l - 1 = cntN (upd (X 26) (ix b) (v_wonB X b u)) B; omega, fun k2 hk2 => by
            obtain ⟨p', q', a1, a2, a3, a4, a5, a6⟩ := t9 k2 hk2
            refine ⟨p', q', a1, a2, a3, a4, a5, ?_⟩
            show upd (X 26) (ix b) (v_wonB X b u) k2 = (-9) ∨ upd (X 26) (ix b) (v_wonB X b u) k2 = nI p' ∨ upd (X 26) (ix b) (v_wonB X b u) k2 = nI q'
            by_cases e : k2 = ix b
            · subst e
              rw [pk_us]
              rw [p2] at a4
              rw [q2] at a5
              rw [← a4, ← a5]; exact Or.inr hw
            · rw [pk_un e]; exact a6⟩, hMt, hC, hRa, hRb, fun q => absurd (hRc q).1 (by omega), hP⟩
        exact hRes
      · rw [if_neg h2, if_neg h2]; exact Rel_mono h

theorem IB_add {X : St} {E N : Nat} (hB : IB X E N) (hE : E < 16) (kd s n : Int32) : IB (s_X3_add (ux X 116 0 0) kd s n) (E + 1) (N + 1) := by
  obtain ⟨h1, h2, h3, h4, h5, h6, h7⟩ := hB
  have iE : ix (X 101 0) = E := by rw [h3]; exact ix_nI (by omega)
  have iN : ix (X 102 0) = N := by rw [h4]; exact ix_nI (by omega)
  refine ⟨by omega, by omega, ?_, ?_, fun r hr => ?_, fun w hw hg => ?_, fun w hw => h7 w (by omega)⟩
  · show upd (X 101) 0 (X 101 0 + 1) 0 = _
    rw [pk_us, h3, nI_1]
  · show upd (X 102) 0 (X 102 0 + 1) 0 = _
    rw [pk_us, h4, nI_1]
  · show ∃ w, w < E + 1 ∧ upd (X 20) (ix (X 102 0)) (X 101 0) r = nI w ∧ upd (X 13) (ix (X 101 0)) (X 102 0) w = nI r ∧ X 18 w = 0
    rw [iE, iN, h3, h4]
    by_cases e : r = N
    · subst e
      exact ⟨E, by omega, pk_us, pk_us, h7 E (Nat.le_refl _)⟩
    · obtain ⟨w, a1, a2, a3, a4⟩ := h5 r (by omega)
      exact ⟨w, by omega, by rw [pk_un e]; exact a2, by rw [pk_un (by omega)]; exact a3, a4⟩
  · show ∃ r, r < N + 1 ∧ upd (X 20) (ix (X 102 0)) (X 101 0) r = nI w
    rw [iN, h3]
    by_cases e : w = E
    · subst e; exact ⟨N, by omega, pk_us⟩
    · obtain ⟨r, a1, a2⟩ := h6 w (by omega) hg
      exact ⟨r, by omega, by rw [pk_un (by omega)]; exact a2⟩
theorem Rel_add {k : Nat} {X M : St} (h : Rel k X M) (kd s n : Int32) : (if (X 101 0) < 16 then (if (X 104 0) = 0 then (X 101 0) else (-4)) else (-2)) = (if (M 101 0) = 16 then (-2) else if (M 103 0) = 0 then (M 101 0) + 1 - 1 else (-4)) ∧ Rel (k + 1) (if (X 101 0) < 16 then (if (X 104 0) = 0 then s_X3_add (ux X 116 0 0) kd s n else X) else X) (if (M 101 0) = 16 then M else if (M 103 0) = 0 then sM_wr1 M kd s n else M) := by
  obtain ⟨E, N, B, d, D, l, L, L2, W, P, hq, hB, hS, hW, hT, hMt, hC, hRa, hRb, hRc, hP⟩ := id h
  rw [← rq_ever hq, ← rq_going hq]
  have hc : (X 101 0) < 16 ↔ ¬ (X 101 0) = 16 := lt_ne (n := 16) hB.2.2.1 hB.1 (by decide)
  by_cases h4 : (X 101 0) < 16
  · rw [if_pos h4, if_neg (hc.mp h4), if_pos h4, if_neg (hc.mp h4)]
    have hl : E < 16 := by
      rw [hB.2.2.1] at h4
      exact (nI_ltI (by have := hB.1; omega) (by decide)).mp (show nI E < nI 16 from h4)
    by_cases h5 : (X 104 0) = 0
    · rw [if_pos h5, if_pos h5, if_pos h5, if_pos h5, Int32.add_sub_cancel]
      refine ⟨rfl, ?_⟩
      exact ⟨E + 1, N + 1, B, d, D, l, L, L2, W, P, (RQ_mk (@rq_latest X M hq) (@rq_times X M hq) (by show upd (X 101) 0 ((X 101 0) + 1) = upd (M 101) 0 ((M 101 0) + 1); rw [rq_ever hq]) (by show upd (X 102) 0 ((X 102 0) + 1) = upd (M 102) 0 ((M 102 0) + 1); rw [rq_standing hq]) (by show upd (X 10) (ix (X 101 0)) kd = upd (M 2) (ix (M 101 0)) kd; rw [rq_kind hq, rq_ever hq]) (by show upd (X 11) (ix (X 101 0)) s = upd (M 3) (ix (M 101 0)) s; rw [rq_stable hq, rq_ever hq]) (by show upd (X 12) (ix (X 101 0)) n = upd (M 4) (ix (M 101 0)) n; rw [rq_kin hq, rq_ever hq]) (@rq_wins X M hq) (@rq_losses X M hq) (@rq_titles X M hq) (@rq_marks X M hq) (@rq_gone X M hq) (@rq_away X M hq) (by show upd (X 20) (ix (X 102 0)) (X 101 0) = upd (M 11) (ix (M 102 0)) (M 101 0); rw [rq_board hq, rq_ever hq, rq_standing hq]) (@rq_ssize X M hq) (@rq_teller X M hq) (@rq_going X M hq) (@rq_days X M hq) (@rq_drawn X M hq) (@rq_bouts X M hq) (@rq_lacking X M hq) (@rq_cost X M hq) (@rq_satOut X M hq) (@rq_day X M hq) (@rq_upper X M hq) (@rq_lower X M hq) (@rq_winner X M hq) (@rq_lines X M hq) (@rq_low X M hq) (@rq_high X M hq) (@rq_up X M hq) (@rq_wtimes X M hq) (by show upd (X 116) 0 0 = upd (M 114) 0 0; rw [rq_fresh hq]) (@rq_linesThen X M hq) (@rq_former X M hq) (@rq_row X M hq) (@rq_begun X M hq) (@rq_holder X M hq)), IB_add hB hl kd s n, IS_cg hS rfl rfl (i4 rfl rfl rfl rfl) rfl, IW_mono hW, hT, hMt, hC, ⟨hRa.1, fun w h1 h2 => hRa.2 w (by omega) h2⟩, hRb, fun q => absurd rfl q, hP⟩
    · rw [if_neg h5, if_neg h5, if_neg h5, if_neg h5]; exact ⟨rfl, Rel_mono h⟩
  · have h6 : (X 101 0) = 16 := Decidable.byContradiction (fun q => h4 (hc.mpr q))
    rw [if_neg h4, if_pos h6, if_neg h4, if_pos h6]; exact ⟨rfl, Rel_mono h⟩
theorem law_wrestler {k : Nat} {X M : St} (h : Rel k X M) (kd : Int32) (s : Int32) (n : Int32) (G H : Gx) : ∃ PX PM : Int32 → St → Prop, (∀ l D, Ci l yX8_wrestler cX8_wrestler 4 (some .int) 2 (xw G) D (tyG G) [.ref (G.1 0), .int kd, .int s, .int n] X PX) ∧ (∀ l D, Ci l yX9_wrestler cX9_wrestler 4 (some .int) 1 (mw H) D (tyG H) [.ref (H.1 0), .int kd, .int s, .int n] M PM) ∧ ∀ r X1 r2 M1, PX r X1 → PM r2 M1 → r = r2 ∧ Rel (k + 1) X1 M1 := by
  obtain ⟨E, N, B, d, D, l, L, L2, W, P, hq, hB, hS, hW, hT, hMt, hC, hRa, hRb, hRc, hP⟩ := id h
  refine ⟨_, _, fun l D => c_X8_wrestler l D G E N X kd s n hB.2.2.1 hB.1 hB.2.2.2.1 (Nat.le_trans hB.2.1 hB.1) hB.2.1, fun l D => c_X9_wrestler l D H E N M kd s n ((congrFun (rq_ever hq) 0).symm.trans hB.2.2.1) hB.1 ((congrFun (rq_standing hq) 0).symm.trans hB.2.2.2.1) (Nat.le_trans hB.2.1 hB.1) hB.2.1, mk2 (?_) (?_)⟩
  · unfold v_wrestler vM_wr
    rw [knd_eq, grp_eq, grp_eq]
    by_cases h1 : vin kd 0 2 = 0
    · rw [if_pos h1, if_pos h1]
    · rw [if_neg h1, if_neg h1]
      by_cases h2 : vin s 0 7 = 0
      · rw [if_pos h2, if_pos h2]
      · rw [if_neg h2, if_neg h2]
        by_cases h3 : n = (-9)
        · rw [if_pos h3, if_pos h3]; exact (Rel_add h kd s n).1
        · rw [if_neg h3, if_neg h3]
          by_cases h4 : vin n 0 7 = 0
          · rw [if_pos h4, if_pos h4]
          · rw [if_neg h4, if_neg h4]; exact (Rel_add h kd s n).1
  · unfold s_wrestler sM_wr
    rw [knd_eq, grp_eq, grp_eq]
    by_cases h1 : vin kd 0 2 = 0
    · rw [if_pos h1, if_pos h1]; exact Rel_mono h
    · rw [if_neg h1, if_neg h1]
      by_cases h2 : vin s 0 7 = 0
      · rw [if_pos h2, if_pos h2]; exact Rel_mono h
      · rw [if_neg h2, if_neg h2]
        by_cases h3 : n = (-9)
        · rw [if_pos h3, if_pos h3]; exact (Rel_add h kd s n).2
        · rw [if_neg h3, if_neg h3]
          by_cases h4 : vin n 0 7 = 0
          · rw [if_pos h4, if_pos h4]; exact Rel_mono h
          · rw [if_neg h4, if_neg h4]; exact (Rel_add h kd s n).2

theorem upd1_0 {f : Nat → Int32} {k j : Nat} (h : upd f k 1 j = 0) : f j = 0 := by
  by_cases e : j = k
  · subst e; rw [pk_us] at h; exact absurd h (by decide)
  · rw [pk_un e] at h; exact h
theorem pm0 {P : Nat} (h : P ≤ 1) : nI (if P = 1 then 0 else P) = nI (if 0 = 1 then 0 else 0) := by
  rcases (show P = 0 ∨ P = 1 by omega) with rfl | rfl <;> rfl
theorem IB_inj {X : St} {E N : Nat} (hB : IB X E N) {a b : Nat} (ha : a < N) (hb : b < N) (h : ix ((X 20) a) = ix ((X 20) b)) : a = b := by
  obtain ⟨h1, h2, h3, h4, h5, h6, h7⟩ := hB
  obtain ⟨w, a1, a2, a3, -⟩ := h5 a ha
  obtain ⟨v, b1, b2, b3, -⟩ := h5 b hb
  rw [a2, b2, ix_nI (by omega), ix_nI (by omega)] at h
  subst h
  exact (nI_eq (by omega) (by omega)).mp (a3.symm.trans b3)
theorem rgR_in {bd rg : Nat → Int32} {R : Nat} : ∀ m, (∀ a b, R < a → a ≤ R + m → R < b → b ≤ R + m → ix (bd a) = ix (bd b) → a = b) → ∀ j, j < m → rgR bd rg R m (ix (bd (R + j + 1))) = nI (R + j)
  | 0, _, j, hj => by omega
  | m + 1, hi, j, hj => by
    show upd (rgR bd rg R m) (ix (bd (R + m + 1))) (nI (R + m)) (ix (bd (R + j + 1))) = _
    by_cases e : j = m
    · subst e; exact pk_us
    · rw [pk_un (fun q => e (by have := hi (R + j + 1) (R + m + 1) (by omega) (by omega) (by omega) (by omega) q; omega))]
      exact rgR_in m (fun a b h1 h2 h3 h4 => hi a b h1 (by omega) h3 (by omega)) j (by omega)
theorem rgR_out {bd rg : Nat → Int32} {R w : Nat} : ∀ m, (∀ j, j < m → ix (bd (R + j + 1)) ≠ w) → rgR bd rg R m w = rg w
  | 0, _ => rfl
  | m + 1, h => by
    show upd (rgR bd rg R m) (ix (bd (R + m + 1))) (nI (R + m)) w = _
    rw [pk_un (fun q => h m (by omega) q.symm)]
    exact rgR_out m (fun j hj => h j (by omega))
theorem IB_rem {X : St} {E N R v : Nat} (hB : IB X E N) (hv : v < E) (hg : (X 18) v = 0) (hR : R < N) (hb : (X 20) R = nI v) : IB (s_X3_remove (ux X 116 0 0) (nI v) N R) E (N - 1) := by
  have inj := @IB_inj X E N hB
  obtain ⟨h1, h2, h3, h4, h5, h6, h7⟩ := id hB
  have iv : ix (nI v) = v := ix_nI (by omega)
  refine ⟨h1, by omega, h3, ?_, fun r hr => ?_, fun w hw hgw => ?_, fun w hw => ?_⟩
  · show upd (X 102) 0 (X 102 0 - 1) 0 = _
    rw [pk_us, h4, nI_m1 (by omega)]
  · show ∃ w, w < E ∧ shB (X 20) R (N - 1) r = nI w ∧ rgR (X 20) (X 13) R (N - 1 - R) w = nI r ∧ upd (X 18) (ix (nI v)) 1 w = 0
    rw [iv]
    by_cases c : R ≤ r
    · obtain ⟨w, a1, a2, a3, a4⟩ := h5 (r + 1) (by omega)
      have hne : w ≠ v := fun e => by
        have := inj (a := r + 1) (b := R) (by omega) hR (by rw [a2, hb, e])
        omega
      refine ⟨w, a1, ?_, ?_, by rw [pk_un hne]; exact a4⟩
      · unfold shB; rw [if_pos ⟨c, hr⟩]; exact a2
      · have := rgR_in (bd := X 20) (rg := X 13) (R := R) (N - 1 - R) (fun a b c1 c2 c3 c4 q => inj (by omega) (by omega) q) (r - R) (by omega)
        rw [show R + (r - R) + 1 = r + 1 by omega, show R + (r - R) = r by omega, a2, ix_nI (by omega)] at this
        exact this
    · obtain ⟨w, a1, a2, a3, a4⟩ := h5 r (by omega)
      have hne : w ≠ v := fun e => by
        have := inj (a := r) (b := R) (by omega) hR (by rw [a2, hb, e])
        omega
      refine ⟨w, a1, ?_, ?_, by rw [pk_un hne]; exact a4⟩
      · unfold shB; rw [if_neg (by omega)]; exact a2
      · rw [rgR_out (N - 1 - R) (fun j hj q => by
          have := inj (a := R + j + 1) (b := r) (by omega) (by omega) (by rw [q, a2, ix_nI (by omega)])
          omega)]
        exact a3
  · show ∃ r, r < N - 1 ∧ shB (X 20) R (N - 1) r = nI w
    have hgw2 : upd (X 18) (ix (nI v)) 1 w = 0 := hgw
    rw [iv] at hgw2
    have hne : w ≠ v := fun e => by
      subst e; rw [pk_us] at hgw2; exact absurd hgw2 (by decide)
    rw [pk_un hne] at hgw2
    obtain ⟨r, a1, a2⟩ := h6 w hw hgw2
    have hrR : r ≠ R := fun e => by
      subst e
      rw [hb] at a2
      exact hne ((nI_eq (by omega) (by omega)).mp a2).symm
    by_cases c : r < R
    · refine ⟨r, by omega, ?_⟩
      unfold shB; rw [if_neg (by omega)]; exact a2
    · refine ⟨r - 1, by omega, ?_⟩
      unfold shB; rw [if_pos (by omega), show r - 1 + 1 = r by omega]; exact a2
  · show upd (X 18) (ix (nI v)) 1 w = 0
    rw [iv, pk_un (by omega)]; exact h7 w hw
theorem law_leave {k : Nat} {X M : St} (h : Rel k X M) (w : Int32) (G H : Gx) : ∃ PX PM : Int32 → St → Prop, (∀ l D, Ci l yX8_leave cX8_leave 2 (some .int) 2 (xw G) D (tyG G) [.ref (G.1 0), .int w] X PX) ∧ (∀ l D, Ci l yX9_leave cX9_leave 4 (some .int) 2 (mw H) D (tyG H) [.ref (H.1 0), .int w] M PM) ∧ ∀ r X1 r2 M1, PX r X1 → PM r2 M1 → r = r2 ∧ Rel (k + 1) X1 M1 := by
  obtain ⟨E, N, B, d, D, l, L, L2, W, P, hq, hB, hS, hW, hT, hMt, hC, hRa, hRb, hRc, hP⟩ := id h
  refine ⟨_, _, fun l D => c_X8_leave l D G E N X w hB.2.2.1 hB.1 hB.2.2.2.1 (Nat.le_trans hB.2.1 hB.1) (IB_in hB) (fun a1 a2 => by
      obtain ⟨v, v1, v2, v3⟩ := kn_lt hB a1
      obtain ⟨R, r1, r2, r3, r4⟩ := rung_eq hq hB v1 (by rw [← v3]; exact a2)
      exact ⟨R, r1, by rw [v3]; exact r3⟩), fun l D => c_X9_leave l D H E N M w ((congrFun (rq_ever hq) 0).symm.trans hB.2.2.1) hB.1 ((congrFun (rq_standing hq) 0).symm.trans hB.2.2.2.1) (Nat.le_trans hB.2.1 hB.1) (fun a1 a2 => by
      obtain ⟨v, v1, v2, v3⟩ := kn_lt hB (w := w) (by rw [kn_eq hq hB]; exact a1)
      obtain ⟨R, r1, r2, r3, r4⟩ := rung_eq hq hB v1 (by rw [rq_gone hq, ← v3]; exact a2)
      exact ⟨R, r1, by rw [v2]; exact r4⟩), mk2 (?_) (?_)⟩
  · unfold v_leave vM_leave
    rw [kn_eq hq hB, rq_going hq, rq_gone hq]
    by_cases h1 : vM_isOne M w = 0
    · rw [if_pos h1, if_pos h1]
    · rw [if_neg h1, if_neg h1]
      by_cases h2 : (M 103 0) = 0
      · rw [if_pos h2, if_pos h2]
        by_cases h3 : (M 5) (ix w) = 0
        · rw [if_pos h3, if_pos h3]
          obtain ⟨v, v1, v2, v3⟩ := kn_lt hB (w := w) (by rw [kn_eq hq hB]; exact h1)
          have gv : (X 18) v = 0 := by rw [rq_gone hq, ← v3]; exact h3
          obtain ⟨R, r1, r2, r3, r4⟩ := rung_eq hq hB v1 gv
          have hv16 := hB.1
          have hN16 := hB.2.1
          rw [← v2] at r4
          rw [v3, r3, r4]
        · rw [if_neg h3, if_neg h3]
      · rw [if_neg h2, if_neg h2]
  · unfold s_leave sM_leave
    rw [kn_eq hq hB, rq_going hq, rq_gone hq]
    by_cases h1 : vM_isOne M w = 0
    · rw [if_pos h1, if_pos h1]; exact Rel_mono h
    · rw [if_neg h1, if_neg h1]
      by_cases h2 : (M 103 0) = 0
      · rw [if_pos h2, if_pos h2]
        by_cases h3 : (M 5) (ix w) = 0
        · rw [if_pos h3, if_pos h3]
          obtain ⟨v, v1, v2, v3⟩ := kn_lt hB (w := w) (by rw [kn_eq hq hB]; exact h1)
          have gv : (X 18) v = 0 := by rw [rq_gone hq, ← v3]; exact h3
          obtain ⟨R, r1, r2, r3, r4⟩ := rung_eq hq hB v1 gv
          have hv16 := hB.1
          have hN16 := hB.2.1
          rw [← v2] at r4
          rw [v3, r3, r4, ix_nI (n := R) (by omega), hB.2.2.2.1, ix_nI (n := N) (by omega), v2]
          have hres : Rel (k + 1) (s_X3_remove (ux X 116 0 0) (nI v) N R) (ux (ux (ux (sr M 11 (shB (M 11) R (N - 1))) 102 0 ((M 102 0) - 1)) 5 v 1) 114 0 0) := ⟨E, N - 1, B, d, D, l, L, L2, W, P, (RQ_mk (@rq_latest X M hq) (@rq_times X M hq) (@rq_ever X M hq) (by show upd (X 102) 0 (X 102 0 - 1) = upd (M 102) 0 (M 102 0 - 1); rw [rq_standing hq]) (@rq_kind X M hq) (@rq_stable X M hq) (@rq_kin X M hq) (@rq_wins X M hq) (@rq_losses X M hq) (@rq_titles X M hq) (@rq_marks X M hq) (by show upd (X 18) (ix (nI v)) 1 = upd (M 5) v 1; rw [ix_nI (by omega), rq_gone hq]) (@rq_away X M hq) (by show shB (X 20) R (N - 1) = shB (M 11) R (N - 1); rw [rq_board hq]) (@rq_ssize X M hq) (@rq_teller X M hq) (@rq_going X M hq) (@rq_days X M hq) (@rq_drawn X M hq) (@rq_bouts X M hq) (@rq_lacking X M hq) (@rq_cost X M hq) (@rq_satOut X M hq) (@rq_day X M hq) (@rq_upper X M hq) (@rq_lower X M hq) (@rq_winner X M hq) (@rq_lines X M hq) (@rq_low X M hq) (@rq_high X M hq) (@rq_up X M hq) (@rq_wtimes X M hq) (by show upd (X 116) 0 0 = upd (M 114) 0 0; rw [rq_fresh hq]) (@rq_linesThen X M hq) (@rq_former X M hq) (@rq_row X M hq) (@rq_begun X M hq) (@rq_holder X M hq)), IB_rem hB v1 gv r1 r2, IS_cg hS rfl rfl (i4 rfl rfl rfl rfl) rfl, IW_mono hW, hT, hMt, hC, ⟨fun w2 hw2 (hg2 : upd (X 18) (ix (nI v)) 1 w2 = 0) => hRa.1 w2 hw2 (upd1_0 hg2), hRa.2⟩, hRb, fun q => absurd rfl q, hP⟩
          exact hres
        · rw [if_neg h3, if_neg h3]; exact Rel_found 1 h
      · rw [if_neg h2, if_neg h2]; exact Rel_mono h

theorem IW_z {X : St} {k : Nat} (h : IW X k) : ∀ w, ∃ a, a ≤ k + 1 ∧ (if w < 16 then 0 else X 14 w) = nI a := fun w => by
  by_cases c : w < 16
  · rw [if_pos c]; exact ⟨0, by omega, rfl⟩
  · rw [if_neg c]
    obtain ⟨a, a1, a2⟩ := h w
    exact ⟨a, by omega, a2⟩
theorem vin115 (v : Int32) : vin v 1 15 = 0 ↔ v < 1 ∨ ¬ v ≤ 15 := by
  unfold vin
  by_cases h1 : v < 1
  · rw [if_pos h1]; exact ⟨fun _ => Or.inl h1, fun _ => rfl⟩
  · rw [if_neg h1]
    by_cases h2 : 15 < v
    · rw [if_pos h2]; exact ⟨fun _ => Or.inr (Int32.not_le.mpr h2), fun _ => rfl⟩
    · rw [if_neg h2]; exact ⟨fun q => absurd q (by decide), fun q => q.elim (fun q => absurd q h1) (fun q => absurd (Int32.not_lt.mp h2) q)⟩
theorem law_meet {k : Nat} {X M : St} (h : Rel k X M) (dd : Int32) (G H : Gx) : ∃ PX PM : Int32 → St → Prop, (∀ l D, Ci l yX8_meet cX8_meet 2 (some .int) 2 (xw G) D (tyG G) [.ref (G.1 0), .int dd] X PX) ∧ (∀ l D, Ci l yX9_meet cX9_meet 3 (some .int) 1 (mw H) D (tyG H) [.ref (H.1 0), .int dd] M PM) ∧ ∀ r X1 r2 M1, PX r X1 → PM r2 M1 → r = r2 ∧ Rel (k + 1) X1 M1 := by
  obtain ⟨E, N, B, d, D, l, L, L2, W, P, hq, hB, hS, hW, hT, hMt, hC, hRa, hRb, hRc, hP⟩ := id h
  refine ⟨_, _, fun l D => c_X8_meet l D G  X dd , fun l D => c_X9_meet l D H  M dd , mk2 (?_) (?_)⟩
  · unfold v_meet vM_meet
    rw [rq_going hq]
    by_cases h1 : dd < 1
    · rw [if_pos h1, if_pos ((vin115 dd).mpr (Or.inl h1))]
    · rw [if_neg h1]
      by_cases h2 : dd ≤ 15
      · rw [if_pos h2, if_neg (fun q => ((vin115 dd).mp q).elim h1 (fun q => q h2))]
        by_cases h3 : (M 103 0) = 0
        · rw [if_pos h3, if_pos h3]; rw [rq_standing hq]
        · rw [if_neg h3, if_neg h3]
      · rw [if_neg h2, if_pos ((vin115 dd).mpr (Or.inr h2))]
  · unfold s_meet sM_meet
    rw [rq_going hq]
    by_cases h1 : dd < 1
    · rw [if_pos h1, if_pos ((vin115 dd).mpr (Or.inl h1))]; exact Rel_mono h
    · rw [if_neg h1]
      by_cases h2 : dd ≤ 15
      · rw [if_pos h2, if_neg (fun q => ((vin115 dd).mp q).elim h1 (fun q => q h2))]
        by_cases h3 : (M 103 0) = 0
        · rw [if_pos h3, if_pos h3]
          have hd0 : ¬ dd < 0 := fun q => h1 (Int32.lt_trans q (by decide))
          obtain ⟨z, z1, z2⟩ := nI_of2 (M := 15) (n := 15) (by decide) hd0 h2
          have hP1 : P ≤ 1 := hP.2.2.2.2.1 (by rw [rq_going hq]; exact h3)
          have hres : Rel (k + 1) (ux (s_X5_clear (s_X3_clearScores (s_X6_begin X dd))) 116 0 0) (sr (sr (sM_mt M dd) 7 (zr (M 7) 0 16)) 8 (zr (M 8) 0 16)) := ⟨E, N, 0, 0, z, 0, L, L2, W, 0, (RQ_mk (@rq_latest X M hq) (@rq_times X M hq) (@rq_ever X M hq) (@rq_standing X M hq) (@rq_kind X M hq) (@rq_stable X M hq) (@rq_kin X M hq) (by show (fun i => if i < 16 then 0 else X 14 i) = zr (M 7) 0 16; rw [rq_wins hq]; rfl) (by show (fun i => if i < 16 then 0 else X 15 i) = zr (M 8) 0 16; rw [rq_losses hq]; rfl) (@rq_titles X M hq) (@rq_marks X M hq) (@rq_gone X M hq) (@rq_away X M hq) (@rq_board X M hq) (@rq_ssize X M hq) (@rq_teller X M hq) (by show upd (X 104) 0 1 = upd (M 103) 0 1; rw [rq_going hq]) (by show upd (X 105) 0 dd = upd (M 105) 0 dd; rw [rq_days hq]) (by show upd (X 106) 0 0 = upd (M 106) 0 0; rw [rq_drawn hq]) (by show upd (X 107) 0 0 = upd (M 107) 0 0; rw [rq_bouts hq]) (by show upd (X 108) 0 0 = upd (M 108) 0 0; rw [rq_lacking hq]) (@rq_cost X M hq) (@rq_satOut X M hq) (@rq_day X M hq) (@rq_upper X M hq) (@rq_lower X M hq) (@rq_winner X M hq) (@rq_lines X M hq) (@rq_low X M hq) (@rq_high X M hq) (@rq_up X M hq) (@rq_wtimes X M hq) (by show upd (X 116) 0 0 = upd (M 114) 0 0; rw [rq_fresh hq]) (@rq_linesThen X M hq) (@rq_former X M hq) (@rq_row X M hq) (by show upd (X 118) 0 0 = upd (M 116) 0 0; rw [rq_begun hq]) (@rq_holder X M hq)), hB, IS_cg hS rfl rfl (i4 rfl rfl rfl rfl) rfl, IW_z hW, ⟨rfl, rfl, z2, rfl, Nat.zero_le _, z1, Nat.zero_le _, rfl, fun k2 hk2 => absurd hk2 (Nat.not_lt_zero _)⟩, fun a ha => ⟨0, by decide, if_pos ha, fun b hb => ⟨fun q => absurd q (by rw [Nat.zero_testBit]; decide), fun ⟨k2, hk2, _⟩ => absurd hk2 (Nat.not_lt_zero _)⟩⟩, hC, hRa, hRb, fun q => absurd rfl q, ⟨rfl, Nat.zero_le _, fun r hr => absurd hr (Nat.not_lt_zero _), fun _ => rfl, fun _ => Nat.zero_le _, (hP.2.2.2.2.2).trans (pm0 hP1)⟩⟩
          exact hres
        · rw [if_neg h3, if_neg h3]; exact Rel_mono h
      · rw [if_neg h2, if_pos ((vin115 dd).mpr (Or.inr h2))]; exact Rel_mono h
