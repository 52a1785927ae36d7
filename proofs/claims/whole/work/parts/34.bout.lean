theorem bk0 {X M : St} {B d D l : Nat} (hq : RQ X M) (hT : IT X B d D l) (w : Int32) : v_X6_knows X w = 0 ↔ vin w 0 ((M 107 0) - 1) = 0 := by
  rw [bkn_eq hq hT]
theorem law_bout {k : Nat} {X M : St} (h : Rel k X M) (b : Int32) (what : Int32) (G H : Gx) : ∃ PX PM : Int32 → St → Prop, (∀ l D, Ci l yX8_bout cX8_bout 3 (some .int) 1 (xw G) D (tyG G) [.ref (G.1 0), .int b, .int what] X PX) ∧ (∀ l D, Ci l yX9_bout cX9_bout 3 (some .int) 1 (mw H) D (tyG H) [.ref (H.1 0), .int b, .int what] M PM) ∧ ∀ r X1 r2 M1, PX r X1 → PM r2 M1 → r = r2 ∧ Rel (k + 1) X1 M1 := by
  obtain ⟨E, N, B, d, D, l, L, L2, W, P, hq, hB, hS, hW, hT, hMt, hC, hRa, hRb, hRc, hP⟩ := id h
  refine ⟨_, _, fun l D => c_X8_bout l D G B X b what hT.1 (IT_120 hT), fun l D => c_X9_bout l D H B M b what ((congrFun (rq_bouts hq) 0).symm.trans hT.1) (IT_120 hT), mk2 (?_) (?_)⟩
  · unfold v_bout vM_bout
    rw [bkn_eq hq hT]
    by_cases h1 : vin b 0 ((M 107 0) - 1) = 0
    · rw [if_pos h1, if_pos h1]
    · rw [if_neg h1, if_neg h1]
      have hc : vin what 0 3 = 0 ↔ what < 0 ∨ ¬ what < 4 := vin0 (a := 4) (by decide)
      by_cases h2 : what < 0
      · rw [if_pos h2, if_pos (hc.mpr (Or.inl h2))]
      · rw [if_neg h2]
        by_cases h3 : what < 4
        · rw [if_pos h3, if_neg (fun q => (hc.mp q).elim h2 (fun q => q h3))]
          unfold v_X6_fact vM_boutTold
          rw [rq_day hq, rq_upper hq, rq_lower hq, rq_winner hq]
        · rw [if_neg h3, if_pos (hc.mpr (Or.inr h3))]
  · exact Rel_mono h

theorem vin15 (v : Int32) : vin v (-15) 15 = 0 ↔ v < (-15) ∨ ¬ v ≤ 15 := by
  unfold vin
  by_cases h1 : v < (-15)
  · rw [if_pos h1]; exact ⟨fun _ => Or.inl h1, fun _ => rfl⟩
  · rw [if_neg h1]
    by_cases h2 : 15 < v
    · rw [if_pos h2]; exact ⟨fun _ => Or.inr (Int32.not_le.mpr h2), fun _ => rfl⟩
    · rw [if_neg h2]; exact ⟨fun q => absurd q (by decide), fun q => q.elim (fun q => absurd q h1) (fun q => absurd (Int32.not_lt.mp h2) q)⟩
theorem lt_ne {x : Int32} {E n : Nat} (hx : x = nI E) (hE : E ≤ n) (hn : n < 2 ^ 31) : x < nI n ↔ ¬ x = nI n := by
  rw [hx, nI_ltI (by omega) hn, nI_eq (by omega) hn]; omega
theorem p1m1 {x : Int32} {E : Nat} (hx : x = nI E) : x + 1 - 1 = x := by
  rw [Int32.add_sub_cancel]
theorem law_line {k : Nat} {X M : St} (h : Rel k X M) (lo : Int32) (hi : Int32) (up : Int32) (G H : Gx) : ∃ PX PM : Int32 → St → Prop, (∀ l D, Ci l yX8_line cX8_line 4 (some .int) 1 (xw G) D (tyG G) [.ref (G.1 0), .int lo, .int hi, .int up] X PX) ∧ (∀ l D, Ci l yX9_line cX9_line 4 (some .int) 1 (mw H) D (tyG H) [.ref (H.1 0), .int lo, .int hi, .int up] M PM) ∧ ∀ r X1 r2 M1, PX r X1 → PM r2 M1 → r = r2 ∧ Rel (k + 1) X1 M1 := by
  obtain ⟨E, N, B, d, D, l, L, L2, W, P, hq, hB, hS, hW, hT, hMt, hC, hRa, hRb, hRc, hP⟩ := id h
  refine ⟨_, _, fun l D => c_X8_line l D G L X lo hi up hC.1 hC.2, fun l D => c_X9_line l D H L M lo hi up ((congrFun (rq_lines hq) 0).symm.trans hC.1) hC.2, mk2 (?_) (?_)⟩
  · unfold v_line vM_line
    by_cases h1 : hi < lo
    · rw [if_pos h1, if_pos h1]
    · rw [if_neg h1, if_neg h1]
      by_cases h2 : up < (-15)
      · rw [if_pos h2, if_pos ((vin15 up).mpr (Or.inl h2))]
      · rw [if_neg h2]
        by_cases h3 : up ≤ 15
        · rw [if_pos h3, if_neg (fun q => ((vin15 up).mp q).elim h2 (fun q => q h3)), ← rq_lines hq]
          have hc : (X 112 0) < 12 ↔ ¬ (X 112 0) = 12 := lt_ne (n := 12) hC.1 hC.2 (by decide)
          by_cases h4 : (X 112 0) < 12
          · rw [if_pos h4, if_neg (hc.mp h4)]
          · rw [if_neg h4, if_pos (Decidable.byContradiction (fun q => h4 (hc.mpr q)))]
        · rw [if_neg h3, if_pos ((vin15 up).mpr (Or.inr h3))]
  · unfold s_line sM_line
    by_cases h1 : hi < lo
    · rw [if_pos h1, if_pos h1]; exact Rel_mono h
    · rw [if_neg h1, if_neg h1]
      by_cases h2 : up < (-15)
      · rw [if_pos h2, if_pos ((vin15 up).mpr (Or.inl h2))]; exact Rel_mono h
      · rw [if_neg h2]
        by_cases h3 : up ≤ 15
        · rw [if_pos h3, if_neg (fun q => ((vin15 up).mp q).elim h2 (fun q => q h3)), ← rq_lines hq]
          have hc : (X 112 0) < 12 ↔ ¬ (X 112 0) = 12 := lt_ne (n := 12) hC.1 hC.2 (by decide)
          by_cases h4 : (X 112 0) < 12
          · rw [if_pos h4, if_neg (hc.mp h4)]
            have hl : L < 12 := by
              rw [hC.1] at h4
              exact (nI_ltI (by have := hC.2; omega) (by decide)).mp (show nI L < nI 12 from h4)
            exact ⟨E, N, B, d, D, l, L + 1, L2, W, P, (RQ_mk (@rq_latest X M hq) (@rq_times X M hq) (@rq_ever X M hq) (@rq_standing X M hq) (@rq_kind X M hq) (@rq_stable X M hq) (@rq_kin X M hq) (@rq_wins X M hq) (@rq_losses X M hq) (@rq_titles X M hq) (@rq_marks X M hq) (@rq_gone X M hq) (@rq_away X M hq) (@rq_board X M hq) (@rq_ssize X M hq) (@rq_teller X M hq) (@rq_going X M hq) (@rq_days X M hq) (@rq_drawn X M hq) (@rq_bouts X M hq) (@rq_lacking X M hq) (@rq_cost X M hq) (@rq_satOut X M hq) (@rq_day X M hq) (@rq_upper X M hq) (@rq_lower X M hq) (@rq_winner X M hq) (by show upd (X 112) 0 ((X 112 0) + 1) = upd (M 112) 0 ((X 112 0) + 1); rw [rq_lines hq]) (by show upd (X 32) (ix (X 112 0)) lo = upd (M 22) (ix (X 112 0)) lo; rw [rq_low hq]) (by show upd (X 33) (ix (X 112 0)) hi = upd (M 23) (ix (X 112 0)) hi; rw [rq_high hq]) (by show upd (X 34) (ix (X 112 0)) up = upd (M 24) (ix (X 112 0)) up; rw [rq_up hq]) (@rq_wtimes X M hq) (@rq_fresh X M hq) (@rq_linesThen X M hq) (@rq_former X M hq) (@rq_row X M hq) (@rq_begun X M hq) (@rq_holder X M hq)), hB, IS_cg hS rfl rfl (i4 rfl rfl rfl rfl) rfl, IW_mono hW, hT, hMt, ⟨by show upd (X 112) 0 ((X 112 0) + 1) 0 = nI (L + 1); rw [pk_us, hC.1, nI_1], hl⟩, hRa, hRb, hRc, hP⟩
          · rw [if_neg h4, if_pos (Decidable.byContradiction (fun q => h4 (hc.mpr q)))]; exact Rel_mono h
        · rw [if_neg h3, if_pos ((vin15 up).mpr (Or.inr h3))]; exact Rel_mono h

theorem go_P {X : St} {P : Nat} (h : (X 117 0) = nI P) (h16 : P ≤ 16) : v_X5_goesOn X = 0 ↔ P ≤ 1 := by
  unfold v_X5_goesOn
  rw [h]
  have hc : nI P ≤ 1 ↔ P ≤ 1 := nI_leI (a := P) (b := 1) (by omega) (by decide)
  by_cases h1 : nI P ≤ 1
  · rw [if_pos h1]; exact ⟨fun _ => hc.mp h1, fun _ => rfl⟩
  · rw [if_neg h1]; exact ⟨fun q => absurd q (by decide), fun q => absurd (hc.mpr q) h1⟩
theorem go_M {M : St} {P : Nat} (h : (M 117 0) = nI (if P = 1 then 0 else P)) (h16 : P ≤ 16) : 2 ≤ (M 117 0) ↔ ¬ P ≤ 1 := by
  rw [h]
  by_cases h1 : P = 1
  · rw [if_pos h1]; exact ⟨fun q => absurd q (by decide), fun q => absurd (by omega) q⟩
  · rw [if_neg h1]
    have hc : (2 : Int32) ≤ nI P ↔ 2 ≤ P := nI_leI (a := 2) (b := P) (by decide) (by omega)
    rw [hc]; omega
theorem law_meets {k : Nat} {X M : St} (h : Rel k X M) (a : Int32) (G H : Gx) : ∃ PX PM : Int32 → St → Prop, (∀ l D, Ci l yX8_meets cX8_meets 2 (some .int) 1 (xw G) D (tyG G) [.ref (G.1 0), .int a] X PX) ∧ (∀ l D, Ci l yX9_meets_ cX9_meets_ 2 (some .int) 0 (mw H) D (tyG H) [.ref (H.1 0), .int a] M PM) ∧ ∀ r X1 r2 M1, PX r X1 → PM r2 M1 → r = r2 ∧ Rel (k + 1) X1 M1 := by
  obtain ⟨E, N, B, d, D, l, L, L2, W, P, hq, hB, hS, hW, hT, hMt, hC, hRa, hRb, hRc, hP⟩ := id h
  refine ⟨_, _, fun l D => c_X8_meets l D G  X a , fun l D => c_X9_meets_ l D H  M a , mk2 (?_) (?_)⟩
  · unfold v_meets vM_meets
    rw [← rq_row hq]
    by_cases h1 : P ≤ 1
    · rw [if_pos ((go_P hP.1 hP.2.1).mpr h1), if_neg (fun q => (go_M hP.2.2.2.2.2 hP.2.1).mp q h1)]
    · rw [if_neg (fun q => h1 ((go_P hP.1 hP.2.1).mp q)), if_pos ((go_M hP.2.2.2.2.2 hP.2.1).mpr h1)]
  · exact Rel_mono h

theorem law_passed {k : Nat} {X M : St} (h : Rel k X M) (a : Int32) (b : Int32) (G H : Gx) : ∃ PX PM : Int32 → St → Prop, (∀ l D, Ci l yX8_passed cX8_passed 3 (some .int) 2 (xw G) D (tyG G) [.ref (G.1 0), .int a, .int b] X PX) ∧ (∀ l D, Ci l yX9_passed cX9_passed 4 (some .int) 2 (mw H) D (tyG H) [.ref (H.1 0), .int a, .int b] M PM) ∧ ∀ r X1 r2 M1, PX r X1 → PM r2 M1 → r = r2 ∧ Rel (k + 1) X1 M1 := by
  obtain ⟨E, N, B, d, D, l, L, L2, W, P, hq, hB, hS, hW, hT, hMt, hC, hRa, hRb, hRc, hP⟩ := id h
  refine ⟨_, _, fun l D => c_X8_passed l D G E X a b hB.2.2.1 hB.1, fun l D => c_X9_passed l D H E M a b ((congrFun (rq_ever hq) 0).symm.trans hB.2.2.1) hB.1, mk2 (?_) (?_)⟩
  · unfold v_passed vM_passed
    rw [kn_eq hq hB, kn_eq hq hB, rq_gone hq]
    by_cases h1 : vM_isOne M a = 0
    · rw [if_pos h1, if_pos h1]
    · rw [if_neg h1, if_neg h1]
      by_cases h2 : vM_isOne M b = 0
      · rw [if_pos h2, if_pos h2]
      · rw [if_neg h2, if_neg h2]
        by_cases h3 : (M 5) (ix a) = 0
        · rw [if_pos h3, if_pos h3]
          by_cases h4 : (M 5) (ix b) = 0
          · rw [if_pos h4, if_pos h4]
            obtain ⟨v, v1, v2, v3⟩ := kn_lt hB (w := a) (by rw [kn_eq hq hB]; exact h1)
            obtain ⟨w, w1, w2, w3⟩ := kn_lt hB (w := b) (by rw [kn_eq hq hB]; exact h2)
            have hv16 : v < 16 := Nat.lt_of_lt_of_le v1 hB.1
            have hw16 : w < 16 := Nat.lt_of_lt_of_le w1 hB.1
            have gv : (X 18) v = 0 := by rw [rq_gone hq, ← v3]; exact h3
            have gw : (X 18) w = 0 := by rw [rq_gone hq, ← w3]; exact h4
            unfold v_X7_overtook vM_ov
            obtain ⟨-, e1, e2, -⟩ := hRa.1 v hv16 gv
            obtain ⟨-, e3, e4, -⟩ := hRa.1 w hw16 gw
            rw [v3, w3, e1, e2, e3, e4]
            by_cases c1 : (M 26) v = (-9)
            · rw [if_pos c1]; rfl
            · rw [if_neg c1]
              by_cases c2 : (M 26) w = (-9)
              · rw [if_pos c2]; rfl
              · rw [if_neg c2]
                by_cases c3 : (M 26) v ≤ (M 26) w
                · rw [if_pos c3]; rfl
                · rw [if_neg c3]
                  by_cases c4 : (M 27) w ≤ (M 27) v
                  · rw [if_pos c4]; rfl
                  · rw [if_neg c4]; rfl
          · rw [if_neg h4, if_neg h4]
        · rw [if_neg h3, if_neg h3]
  · unfold s_passed sM_passed
    rw [kn_eq hq hB, kn_eq hq hB, rq_gone hq]
    by_cases h1 : vM_isOne M a = 0
    · rw [if_pos h1, if_pos h1]; exact Rel_mono h
    · rw [if_neg h1, if_neg h1]
      by_cases h2 : vM_isOne M b = 0
      · rw [if_pos h2, if_pos h2]; exact Rel_mono h
      · rw [if_neg h2, if_neg h2]
        by_cases h3 : (M 5) (ix a) = 0
        · rw [if_pos h3, if_pos h3]
          by_cases h4 : (M 5) (ix b) = 0
          · rw [if_pos h4, if_pos h4]; exact Rel_mono h
          · rw [if_neg h4, if_neg h4]; exact Rel_found 1 h
        · rw [if_neg h3, if_neg h3]; exact Rel_found 1 h

theorem metN_0 (u l a b x : Int32) : metN u l a b x = 0 ↔ x = 0 ∧ ¬ ((u = a ∧ l = b) ∨ (u = b ∧ l = a)) := by
  unfold metN
  by_cases h0 : x = 0
  · by_cases h1 : u = a <;> by_cases h2 : l = b <;> by_cases h3 : u = b <;> by_cases h4 : l = a <;> simp [h0, h1, h2, h3, h4] <;> simp_all
  · rw [if_neg h0]; exact ⟨fun q => absurd q (by decide), fun q => absurd q.1 h0⟩
theorem metL_0 (u l : Nat → Int32) (a b : Int32) : ∀ B, metL u l a b B = 0 ↔ ∀ k, k < B → ¬ ((u k = a ∧ l k = b) ∨ (u k = b ∧ l k = a))
  | 0 => ⟨fun _ k hk => by omega, fun _ => rfl⟩
  | B + 1 => by
    show metN (u B) (l B) a b (metL u l a b B) = 0 ↔ _
    rw [metN_0, metL_0 u l a b B]
    constructor
    · rintro ⟨h1, h2⟩ k hk
      by_cases e : k = B
      · subst e; exact h2
      · exact h1 k (by omega)
    · intro h1
      exact ⟨fun k hk => h1 k (by omega), h1 B (by omega)⟩
theorem met_eq {X M : St} {B : Nat} (hq : RQ X M) (hM : IMt X B) {v w : Nat} (hv : v < 16) (hw : w < 16) : v_X6_haveMet X (nI v) (nI w) = 0 ↔ metL (M 16) (M 17) (nI v) (nI w) B = 0 := by
  obtain ⟨m, hm, e, ht⟩ := hM v hv
  unfold v_X6_haveMet
  rw [ix_nI (by omega), e, nI_shl1 w (by omega), metL_0, ← rq_upper hq, ← rq_lower hq]
  have hb := nI_bit (m := m) (t := w) (by omega)
  by_cases h1 : nI m &&& nI (2 ^ w) = 0
  · rw [if_pos h1]
    refine ⟨fun _ k hk q => ?_, fun _ => rfl⟩
    have := (ht w hw).mpr ⟨k, hk, q⟩
    rw [hb.mp h1] at this
    exact absurd this (by decide)
  · rw [if_neg h1]
    refine ⟨fun q => absurd q (by decide), fun q => ?_⟩
    have h2 : m.testBit w = true := by
      cases e2 : m.testBit w with
      | true => rfl
      | false => exact absurd (hb.mpr e2) h1
    obtain ⟨k, hk, q2⟩ := (ht w hw).mp h2
    exact absurd q2 (q k hk)
theorem bb_eq {X M : St} (hq : RQ X M) (a b : Int32) : bars2 X a b = bb1 M a b + bb2 M a b ∧ bars2 X a b ||| 4 = bb1 M a b + bb2 M a b + 4 ∧ (bars2 X a b = 0 ↔ bb1 M a b + bb2 M a b ≤ 0) ∧ ¬ bars2 X a b ||| 4 = 0 ∧ ¬ bars2 X a b ||| 4 ≤ 0 := by
  unfold bars2 bars1 bb1 bb2
  rw [rq_stable hq, rq_kin hq]
  by_cases h1 : (M 3) (ix a) = (M 3) (ix b) <;> by_cases h2 : (M 4) (ix a) = (-9) <;> by_cases h3 : (M 4) (ix a) = (M 4) (ix b)
  · rw [if_pos h1, if_pos h2, if_pos h1, if_pos h2]; decide
  · rw [if_pos h1, if_pos h2, if_pos h1, if_pos h2]; decide
  · rw [if_pos h1, if_neg h2, if_pos h3, if_pos h1, if_neg h2, if_pos h3]; decide
  · rw [if_pos h1, if_neg h2, if_neg h3, if_pos h1, if_neg h2, if_neg h3]; decide
  · rw [if_neg h1, if_pos h2, if_neg h1, if_pos h2]; decide
  · rw [if_neg h1, if_pos h2, if_neg h1, if_pos h2]; decide
  · rw [if_neg h1, if_neg h2, if_pos h3, if_neg h1, if_neg h2, if_pos h3]; decide
  · rw [if_neg h1, if_neg h2, if_neg h3, if_neg h1, if_neg h2, if_neg h3]; decide
theorem bars_eq {X M : St} {B : Nat} (hq : RQ X M) (hM : IMt X B) {v w : Nat} (hv : v < 16) (hw : w < 16) : v_bars X (nI v) (nI w) = vM_bars M (nI v) (nI w) B ∧ (v_bars X (nI v) (nI w) = 0 ↔ vM_bars M (nI v) (nI w) B ≤ 0) := by
  obtain ⟨h1, h2, h3, h4, h5⟩ := bb_eq hq (nI v) (nI w)
  have hm := met_eq hq hM hv hw
  unfold v_bars vM_bars vM_met
  rw [rq_going hq]
  by_cases c1 : (M 103 0) = 0
  · rw [if_pos c1, if_pos c1, if_pos rfl]; exact ⟨h1, h3⟩
  · rw [if_neg c1, if_neg c1]
    by_cases c2 : v_X6_haveMet X (nI v) (nI w) = 0
    · rw [if_pos c2, if_pos (hm.mp c2)]; exact ⟨h1, h3⟩
    · rw [if_neg c2, if_neg (fun q => c2 (hm.mpr q)), ← h2]
      exact ⟨rfl, ⟨fun q => absurd q h4, fun q => absurd q h5⟩⟩
theorem law_barred {k : Nat} {X M : St} (h : Rel k X M) (a : Int32) (b : Int32) (G H : Gx) : ∃ PX PM : Int32 → St → Prop, (∀ l D, Ci l yX8_barred cX8_barred 3 (some .int) 2 (xw G) D (tyG G) [.ref (G.1 0), .int a, .int b] X PX) ∧ (∀ l D, Ci l yX9_barred cX9_barred 3 (some .int) 2 (mw H) D (tyG H) [.ref (H.1 0), .int a, .int b] M PM) ∧ ∀ r X1 r2 M1, PX r X1 → PM r2 M1 → r = r2 ∧ Rel (k + 1) X1 M1 := by
  obtain ⟨E, N, B, d, D, l, L, L2, W, P, hq, hB, hS, hW, hT, hMt, hC, hRa, hRb, hRc, hP⟩ := id h
  refine ⟨_, _, fun l D => c_X8_barred l D G E X a b hB.2.2.1 hB.1, fun l D => c_X9_barred l D H E B M a b ((congrFun (rq_ever hq) 0).symm.trans hB.2.2.1) hB.1 ((congrFun (rq_bouts hq) 0).symm.trans hT.1) (IT_120 hT), mk2 (?_) (?_)⟩
  · unfold v_barred vM_barred
    rw [kn_eq hq hB, kn_eq hq hB, rq_gone hq]
    by_cases h1 : vM_isOne M a = 0
    · rw [if_pos h1, if_pos h1]
    · rw [if_neg h1, if_neg h1]
      by_cases h2 : vM_isOne M b = 0
      · rw [if_pos h2, if_pos h2]
      · rw [if_neg h2, if_neg h2]
        by_cases h5 : a = b
        · rw [if_pos h5, if_pos h5]
        rw [if_neg h5, if_neg h5]
        by_cases h3 : (M 5) (ix a) = 0
        · rw [if_pos h3, if_pos h3]
          by_cases h4 : (M 5) (ix b) = 0
          · rw [if_pos h4, if_pos h4]
            obtain ⟨v, v1, v2, v3⟩ := kn_lt hB (w := a) (by rw [kn_eq hq hB]; exact h1)
            obtain ⟨w, w1, w2, w3⟩ := kn_lt hB (w := b) (by rw [kn_eq hq hB]; exact h2)
            have hv16 : v < 16 := Nat.lt_of_lt_of_le v1 hB.1
            have hw16 : w < 16 := Nat.lt_of_lt_of_le w1 hB.1
            have gv : (X 18) v = 0 := by rw [rq_gone hq, ← v3]; exact h3
            have gw : (X 18) w = 0 := by rw [rq_gone hq, ← w3]; exact h4
            rw [v2, w2]; exact (bars_eq hq hMt hv16 hw16).1
          · rw [if_neg h4, if_neg h4]
        · rw [if_neg h3, if_neg h3]
  · unfold s_barred sM_barred
    rw [kn_eq hq hB, kn_eq hq hB, rq_gone hq]
    by_cases h1 : vM_isOne M a = 0
    · rw [if_pos h1, if_pos h1]; exact Rel_mono h
    · rw [if_neg h1, if_neg h1]
      by_cases h2 : vM_isOne M b = 0
      · rw [if_pos h2, if_pos h2]; exact Rel_mono h
      · rw [if_neg h2, if_neg h2]
        by_cases h5 : a = b
        · rw [if_pos h5, if_pos h5]; exact Rel_mono h
        rw [if_neg h5, if_neg h5]
        by_cases h3 : (M 5) (ix a) = 0
        · rw [if_pos h3, if_pos h3]
          by_cases h4 : (M 5) (ix b) = 0
          · rw [if_pos h4, if_pos h4]; exact Rel_mono h
          · rw [if_neg h4, if_neg h4]; exact Rel_found 1 h
        · rw [if_neg h3, if_neg h3]; exact Rel_found 1 h
