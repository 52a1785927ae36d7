theorem mk2 {k : Nat} {vx vm : Int32} {sx sm : St} (e : vx = vm) (hr : Rel (k + 1) sx sm) : ∀ (r : Int32) (X1 : St) (r2 : Int32) (M1 : St), (r = vx ∧ X1 = sx) → (r2 = vm ∧ M1 = sm) → r = r2 ∧ Rel (k + 1) X1 M1 := fun r X1 r2 M1 h1 h2 => by
  rw [h1.1, h1.2, h2.1, h2.2]; exact ⟨e, hr⟩
theorem mk2l {k : Nat} {vx vm : Int64} {sx sm : St} (e : vx = vm) (hr : Rel (k + 1) sx sm) : ∀ (r : Int64) (X1 : St) (r2 : Int64) (M1 : St), (r = vx ∧ X1 = sx) → (r2 = vm ∧ M1 = sm) → r = r2 ∧ Rel (k + 1) X1 M1 := fun r X1 r2 M1 h1 h2 => by
  rw [h1.1, h1.2, h2.1, h2.2]; exact ⟨e, hr⟩
theorem IT_120 {X : St} {B d D l : Nat} (h : IT X B d D l) : B ≤ 120 := by
  obtain ⟨-, -, -, -, h5, h6, h7, -⟩ := h
  omega
theorem IT_u {X : St} {B d D l : Nat} (h : IT X B d D l) : ∀ k, k < B → vp_in ((X 24) k) 16 ∧ vp_in ((X 25) k) 16 := fun k hk => by
  obtain ⟨-, -, -, -, -, -, -, -, h9⟩ := h
  obtain ⟨u, v, a1, a2, -, a3, a4, -⟩ := h9 k hk
  rw [a3, a4]
  exact ⟨vp_in_nI a1 (by decide), vp_in_nI a2 (by decide)⟩
theorem IT_um {X M : St} {B d D l : Nat} (hq : RQ X M) (h : IT X B d D l) : ∀ k, k < B → vp_in ((M 16) k) 16 ∧ vp_in ((M 17) k) 16 := fun k hk => by
  rw [← rq_upper hq, ← rq_lower hq]; exact IT_u h k hk
theorem vin0 {v : Int32} {a : Nat} (ha : a < 2 ^ 31) : vin v 0 (nI a - 1) = 0 ↔ v < 0 ∨ ¬ v < nI a := by
  rw [vin_eq ha]
  by_cases h1 : v < 0
  · rw [if_pos h1]; exact ⟨fun _ => Or.inl h1, fun _ => rfl⟩
  · rw [if_neg h1]
    by_cases h2 : nI a ≤ v
    · rw [if_pos h2]; exact ⟨fun _ => Or.inr (Int32.not_lt.mpr h2), fun _ => rfl⟩
    · rw [if_neg h2]
      exact ⟨fun q => absurd q (by decide), fun q => q.elim (fun q => absurd q h1) (fun q => absurd (Int32.not_lt.mp q) h2)⟩
theorem vin7 {v : Int32} : vin v 0 6 = 0 ↔ v < 0 ∨ ¬ v < 7 := vin0 (a := 7) (by decide)
theorem nd_z {M : St} {w g a : Int32} (hg : g = 0) : (if 0 ≤ vM_need M g w then a else vM_need M g w) = (-1) := by
  rw [hg, need_0.1]; exact if_neg (by decide)
theorem nd_s {M : St} {w g : Int32} (hg : g = 0) : sM_need M g w = M := by
  rw [hg, need_0.2]
theorem nd_n {X M : St} {E N : Nat} (hq : RQ X M) (hB : IB X E N) {w g a b : Int32} (hg : ¬ g = 0) (hv : v_ref X w = 0 → a = b) : (if v_ref X w = 0 then a else v_ref X w) = (if 0 ≤ vM_need M g w then b else vM_need M g w) := by
  rw [← ref_eq hq hB w g hg]
  by_cases h1 : v_ref X w = 0
  · rw [if_pos h1, if_pos (ref_ge.mp h1)]; exact hv h1
  · rw [if_neg h1, if_neg (fun q => h1 (ref_ge.mpr q))]
theorem ref0 {X : St} {E N : Nat} (hB : IB X E N) {w : Int32} (h : v_ref X w = 0) : ∃ v, v < E ∧ v < 16 ∧ w = nI v ∧ ix w = v ∧ (X 18) v = 0 := by
  obtain ⟨h1, h2⟩ := ref_kn h
  obtain ⟨v, a1, a2, a3⟩ := kn_lt hB h1
  exact ⟨v, a1, Nat.lt_of_lt_of_le a1 hB.1, a2, a3, by rw [← a3]; exact h2⟩
theorem rgS_eq {X M : St} {E N : Nat} (hq : RQ X M) (hB : IB X E N) {v : Nat} (hv : v < E) (hg : (X 18) v = 0) : (X 13) v = rgS (M 11) (nI v) N 0 := by
  obtain ⟨R, -, -, h3, h4⟩ := rung_eq hq hB hv hg
  rw [h3, h4]
theorem fact_eq {X M : St} {E N : Nat} (hq : RQ X M) (hB : IB X E N) {w what : Int32} (h : v_ref X w = 0) : v_X3_fact X w what = vM_toldOf M w what N := by
  obtain ⟨v, h1, h2, h3, h4, h5⟩ := ref0 hB h
  have hr : (X 13) (ix w) = rgS (M 11) w N 0 := by
    rw [h4, h3]; exact rgS_eq hq hB h1 h5
  unfold v_X3_fact vM_toldOf
  rw [hr, rq_kind hq, rq_stable hq, rq_kin hq, rq_wins hq, rq_losses hq, rq_titles hq]

theorem law_told {k : Nat} {X M : St} (h : Rel k X M) (w : Int32) (what : Int32) (G H : Gx) : ∃ PX PM : Int32 → St → Prop, (∀ l D, Ci l yX8_told cX8_told 4 (some .int) 2 (xw G) D (tyG G) [.ref (G.1 0), .int w, .int what] X PX) ∧ (∀ l D, Ci l yX9_told cX9_told 4 (some .int) 3 (mw H) D (tyG H) [.ref (H.1 0), .int w, .int what] M PM) ∧ ∀ r X1 r2 M1, PX r X1 → PM r2 M1 → r = r2 ∧ Rel (k + 1) X1 M1 := by
  obtain ⟨E, N, B, d, D, l, L, L2, W, P, hq, hB, hS, hW, hT, hMt, hC, hRa, hRb, hRc, hP⟩ := id h
  refine ⟨_, _, fun l D => c_X8_told l D G E X w what hB.2.2.1 hB.1, fun l D => c_X9_told l D H E N M w what ((congrFun (rq_ever hq) 0).symm.trans hB.2.2.1) hB.1 ((congrFun (rq_standing hq) 0).symm.trans hB.2.2.2.1) (Nat.le_trans hB.2.1 hB.1), mk2 (?_) (?_)⟩
  · unfold v_told vM_told
    by_cases h1 : what < 0
    · rw [if_pos h1]; exact (nd_z (vin7.mpr (Or.inl h1))).symm
    · rw [if_neg h1]
      by_cases h2 : what < 7
      · rw [if_pos h2]; exact nd_n hq hB (fun q => (vin7.mp q).elim h1 (fun q2 => q2 h2)) (fun h0 => fact_eq hq hB h0)
      · rw [if_neg h2]; exact (nd_z (vin7.mpr (Or.inr h2))).symm
  · unfold s_told
    by_cases h1 : what < 0
    · rw [if_pos h1, nd_s (vin7.mpr (Or.inl h1))]; exact Rel_mono h
    · rw [if_neg h1]
      by_cases h2 : what < 7
      · rw [if_pos h2]; exact Rel_ref h w _ (fun q => (vin7.mp q).elim h1 (fun q2 => q2 h2))
      · rw [if_neg h2, nd_s (vin7.mpr (Or.inr h2))]; exact Rel_mono h

theorem law_is {k : Nat} {X M : St} (h : Rel k X M) (w : Int32) (kd : Int32) (G H : Gx) : ∃ PX PM : Int32 → St → Prop, (∀ l D, Ci l yX8_is cX8_is 4 (some .int) 2 (xw G) D (tyG G) [.ref (G.1 0), .int w, .int kd] X PX) ∧ (∀ l D, Ci l yX9_is cX9_is 4 (some .int) 3 (mw H) D (tyG H) [.ref (H.1 0), .int w, .int kd] M PM) ∧ ∀ r X1 r2 M1, PX r X1 → PM r2 M1 → r = r2 ∧ Rel (k + 1) X1 M1 := by
  obtain ⟨E, N, B, d, D, l, L, L2, W, P, hq, hB, hS, hW, hT, hMt, hC, hRa, hRb, hRc, hP⟩ := id h
  refine ⟨_, _, fun l D => c_X8_is l D G E X w kd hB.2.2.1 hB.1, fun l D => c_X9_is l D H E M w kd ((congrFun (rq_ever hq) 0).symm.trans hB.2.2.1) hB.1, mk2 (?_) (?_)⟩
  · unfold v_is vM_is
    by_cases h1 : v_isKind kd = 0
    · rw [if_pos h1]; exact (nd_z (g := vin kd 0 2) h1).symm
    · rw [if_neg h1]
      refine nd_n hq hB (g := vin kd 0 2) h1 (fun h0 => ?_)
      unfold v_X3_isOf
      rw [rq_kind hq]
      by_cases h2 : kd = 0
      · rw [if_pos h2]; decide
      · rw [if_neg h2]
        by_cases h3 : (M 2) (ix w) = kd
        · rw [if_pos h3]; decide
        · rw [if_neg h3]; decide
  · unfold s_is
    by_cases h1 : v_isKind kd = 0
    · rw [if_pos h1, nd_s (g := vin kd 0 2) h1]; exact Rel_mono h
    · rw [if_neg h1]; exact Rel_ref h w (vin kd 0 2) h1

theorem law_on {k : Nat} {X M : St} (h : Rel k X M) (rg : Int32) (G H : Gx) : ∃ PX PM : Int32 → St → Prop, (∀ l D, Ci l yX8_on cX8_on 2 (some .int) 0 (xw G) D (tyG G) [.ref (G.1 0), .int rg] X PX) ∧ (∀ l D, Ci l yX9_on cX9_on 2 (some .int) 1 (mw H) D (tyG H) [.ref (H.1 0), .int rg] M PM) ∧ ∀ r X1 r2 M1, PX r X1 → PM r2 M1 → r = r2 ∧ Rel (k + 1) X1 M1 := by
  obtain ⟨E, N, B, d, D, l, L, L2, W, P, hq, hB, hS, hW, hT, hMt, hC, hRa, hRb, hRc, hP⟩ := id h
  refine ⟨_, _, fun l D => c_X8_on l D G N X rg hB.2.2.2.1 (Nat.le_trans hB.2.1 hB.1), fun l D => c_X9_on l D H N M rg ((congrFun (rq_standing hq) 0).symm.trans hB.2.2.2.1) (Nat.le_trans hB.2.1 hB.1), mk2 (?_) (?_)⟩
  · unfold v_on vM_on
    rw [((congrFun (rq_standing hq) 0).symm.trans hB.2.2.2.1), hB.2.2.2.1, rq_board hq]
    by_cases h1 : rg < 0
    · rw [if_pos h1, if_pos ((vin0 (by have := hB.1; have := hB.2.1; omega)).mpr (Or.inl h1))]
    · rw [if_neg h1]
      by_cases h2 : rg < nI N
      · rw [if_pos h2, if_neg (fun q => ((vin0 (by have := hB.1; have := hB.2.1; omega)).mp q).elim h1 (fun q2 => q2 h2))]
      · rw [if_neg h2, if_pos ((vin0 (by have := hB.1; have := hB.2.1; omega)).mpr (Or.inr h2))]
  · exact Rel_mono h

theorem vin12 (k : Int32) : vin k 1 2 = 0 ↔ v_isKind k = 0 ∨ k = 0 := by
  have h0 : (k = 0) ↔ k.toInt = 0 := ⟨fun e => by rw [e]; rfl, fun e => Int32.toInt_inj.mp (by rw [e]; rfl)⟩
  have a1 : (k < 1) ↔ k.toInt < 1 := Int32.lt_iff_toInt_lt
  have a2 : (2 < k) ↔ 2 < k.toInt := Int32.lt_iff_toInt_lt
  have a3 : (k < 0) ↔ k.toInt < 0 := Int32.lt_iff_toInt_lt
  unfold vin v_isKind
  by_cases c1 : k < 1
  · rw [if_pos c1]
    refine ⟨fun _ => ?_, fun _ => rfl⟩
    by_cases c3 : k < 0
    · rw [if_pos c3]; exact Or.inl rfl
    · exact Or.inr (h0.mpr (by have := a1.mp c1; have := mt a3.mpr c3; omega))
  · rw [if_neg c1, if_neg (fun q : k < 0 => c1 (a1.mpr (by have := a3.mp q; omega)))]
    by_cases c2 : 2 < k
    · rw [if_pos c2]; exact ⟨fun _ => Or.inl rfl, fun _ => rfl⟩
    · rw [if_neg c2]
      exact ⟨fun q => absurd q (by decide), fun q => q.elim (fun q => q) (fun q => absurd (a1.mpr (by have := h0.mp q; omega)) c1)⟩
theorem law_mark {k : Nat} {X M : St} (h : Rel k X M) (w : Int32) (kd : Int32) (G H : Gx) : ∃ PX PM : Int32 → St → Prop, (∀ l D, Ci l yX8_mark cX8_mark 4 (some .int) 2 (xw G) D (tyG G) [.ref (G.1 0), .int w, .int kd] X PX) ∧ (∀ l D, Ci l yX9_mark cX9_mark 4 (some .int) 3 (mw H) D (tyG H) [.ref (H.1 0), .int w, .int kd] M PM) ∧ ∀ r X1 r2 M1, PX r X1 → PM r2 M1 → r = r2 ∧ Rel (k + 1) X1 M1 := by
  obtain ⟨E, N, B, d, D, l, L, L2, W, P, hq, hB, hS, hW, hT, hMt, hC, hRa, hRb, hRc, hP⟩ := id h
  refine ⟨_, _, fun l D => c_X8_mark l D G E X w kd hB.2.2.1 hB.1, fun l D => c_X9_mark l D H E M w kd ((congrFun (rq_ever hq) 0).symm.trans hB.2.2.1) hB.1, mk2 (?_) (?_)⟩
  · unfold v_mark vM_mark
    by_cases h1 : v_isKind kd = 0
    · rw [if_pos h1]; exact (nd_z ((vin12 kd).mpr (Or.inl h1))).symm
    · rw [if_neg h1]
      by_cases h2 : kd = 0
      · rw [if_pos h2]; exact (nd_z ((vin12 kd).mpr (Or.inr h2))).symm
      · rw [if_neg h2]
        refine nd_n hq hB (fun q => ((vin12 kd).mp q).elim h1 h2) (fun h0 => ?_)
        unfold v_X3_isOf
        rw [rq_kind hq, rq_marks hq, if_neg h2]
        by_cases h3 : (M 2) (ix w) = kd
        · rw [if_pos h3, if_pos h3]; rfl
        · rw [if_neg h3, if_neg h3, if_pos rfl]
  · unfold s_mark sM_mark
    by_cases h1 : v_isKind kd = 0
    · have hz := (vin12 kd).mpr (Or.inl h1)
      rw [if_pos h1, hz, need_0.1, need_0.2, if_neg (by decide)]; exact Rel_mono h
    · rw [if_neg h1]
      by_cases h2 : kd = 0
      · have hz := (vin12 kd).mpr (Or.inr h2)
        rw [if_pos h2, hz, need_0.1, need_0.2, if_neg (by decide)]; exact Rel_mono h
      · have hg : ¬ vin kd 1 2 = 0 := fun q => ((vin12 kd).mp q).elim h1 h2
        rw [if_neg h2]
        by_cases h4 : v_ref X w = 0
        · rw [if_pos h4, if_pos (show 0 ≤ vM_need M (vin kd 1 2) w by rw [← ref_eq hq hB w _ hg]; exact ref_ge.mp h4)]
          unfold v_X3_isOf
          rw [rq_kind hq, if_neg h2]
          by_cases h3 : (M 2) (ix w) = kd
          · rw [if_pos h3, if_pos h3, if_neg (by decide)]; exact Rel_mono h
          · rw [if_neg h3, if_neg h3, if_pos rfl]; exact Rel_found 3 h
        · rw [if_neg h4, if_neg (fun q : 0 ≤ vM_need M (vin kd 1 2) w => h4 (ref_ge.mpr (by rw [ref_eq hq hB w _ hg]; exact q)))]
          exact Rel_ref h w _ hg

theorem law_cost {k : Nat} {X M : St} (h : Rel k X M) (G H : Gx) : ∃ PX PM : Int32 → St → Prop, (∀ l D, Ci l yX8_cost cX8_cost 1 (some .int) 0 (xw G) D (tyG G) [.ref (G.1 0)] X PX) ∧ (∀ l D, Ci l yX9_cost cX9_cost 1 (some .int) 0 (mw H) D (tyG H) [.ref (H.1 0)] M PM) ∧ ∀ r X1 r2 M1, PX r X1 → PM r2 M1 → r = r2 ∧ Rel (k + 1) X1 M1 := by
  obtain ⟨E, N, B, d, D, l, L, L2, W, P, hq, hB, hS, hW, hT, hMt, hC, hRa, hRb, hRc, hP⟩ := id h
  refine ⟨_, _, fun l D => c_X8_cost l D G  X  , fun l D => c_X9_cost l D H  M  , mk2 (?_) (?_)⟩
  · exact congrFun (rq_cost hq) 0
  · exact Rel_mono h

theorem law_sat {k : Nat} {X M : St} (h : Rel k X M) (G H : Gx) : ∃ PX PM : Int32 → St → Prop, (∀ l D, Ci l yX8_sat cX8_sat 1 (some .int) 0 (xw G) D (tyG G) [.ref (G.1 0)] X PX) ∧ (∀ l D, Ci l yX9_sat cX9_sat 1 (some .int) 0 (mw H) D (tyG H) [.ref (H.1 0)] M PM) ∧ ∀ r X1 r2 M1, PX r X1 → PM r2 M1 → r = r2 ∧ Rel (k + 1) X1 M1 := by
  obtain ⟨E, N, B, d, D, l, L, L2, W, P, hq, hB, hS, hW, hT, hMt, hC, hRa, hRb, hRc, hP⟩ := id h
  refine ⟨_, _, fun l D => c_X8_sat l D G  X  , fun l D => c_X9_sat l D H  M  , mk2 (?_) (?_)⟩
  · exact congrFun (rq_satOut hq) 0
  · exact Rel_mono h

theorem law_champion {k : Nat} {X M : St} (h : Rel k X M) (G H : Gx) : ∃ PX PM : Int32 → St → Prop, (∀ l D, Ci l yX8_champion cX8_champion 1 (some .int) 0 (xw G) D (tyG G) [.ref (G.1 0)] X PX) ∧ (∀ l D, Ci l yX9_champion cX9_champion 1 (some .int) 0 (mw H) D (tyG H) [.ref (H.1 0)] M PM) ∧ ∀ r X1 r2 M1, PX r X1 → PM r2 M1 → r = r2 ∧ Rel (k + 1) X1 M1 := by
  obtain ⟨E, N, B, d, D, l, L, L2, W, P, hq, hB, hS, hW, hT, hMt, hC, hRa, hRb, hRc, hP⟩ := id h
  refine ⟨_, _, fun l D => c_X8_champion l D G  X  , fun l D => c_X9_champion l D H  M  , mk2 (?_) (?_)⟩
  · exact congrFun (rq_holder hq) 0
  · exact Rel_mono h

theorem law_finding {k : Nat} {X M : St} (h : Rel k X M) (G H : Gx) : ∃ PX PM : Int32 → St → Prop, (∀ l D, Ci l yX8_finding cX8_finding 1 (some .int) 0 (xw G) D (tyG G) [.ref (G.1 0)] X PX) ∧ (∀ l D, Ci l yX9_finding cX9_finding 1 (some .int) 0 (mw H) D (tyG H) [.ref (H.1 0)] M PM) ∧ ∀ r X1 r2 M1, PX r X1 → PM r2 M1 → r = r2 ∧ Rel (k + 1) X1 M1 := by
  obtain ⟨E, N, B, d, D, l, L, L2, W, P, hq, hB, hS, hW, hT, hMt, hC, hRa, hRb, hRc, hP⟩ := id h
  refine ⟨_, _, fun l D => c_X8_finding l D G  X  , fun l D => c_X9_finding l D H  M  , mk2 (?_) (?_)⟩
  · exact congrFun (rq_latest hq) 0
  · exact Rel_mono h

theorem law_count {k : Nat} {X M : St} (h : Rel k X M) (what : Int32) (G H : Gx) : ∃ PX PM : Int32 → St → Prop, (∀ l D, Ci l yX8_count cX8_count 2 (some .int) 1 (xw G) D (tyG G) [.ref (G.1 0), .int what] X PX) ∧ (∀ l D, Ci l yX9_count cX9_count 2 (some .int) 0 (mw H) D (tyG H) [.ref (H.1 0), .int what] M PM) ∧ ∀ r X1 r2 M1, PX r X1 → PM r2 M1 → r = r2 ∧ Rel (k + 1) X1 M1 := by
  obtain ⟨E, N, B, d, D, l, L, L2, W, P, hq, hB, hS, hW, hT, hMt, hC, hRa, hRb, hRc, hP⟩ := id h
  refine ⟨_, _, fun l D => c_X8_count l D G  X what , fun l D => c_X9_count l D H  M what , mk2 (?_) (?_)⟩
  · unfold v_tally vM_count
    rw [rq_ever hq, rq_standing hq, rq_drawn hq, rq_going hq, rq_days hq, rq_bouts hq, rq_lacking hq, rq_lines hq, rq_wtimes hq]
  · exact Rel_mono h

theorem law_findings {k : Nat} {X M : St} (h : Rel k X M) (f : Int32) (G H : Gx) : ∃ PX PM : Int32 → St → Prop, (∀ l D, Ci l yX8_findings cX8_findings 2 (some .int) 0 (xw G) D (tyG G) [.ref (G.1 0), .int f] X PX) ∧ (∀ l D, Ci l yX9_findings cX9_findings 2 (some .int) 1 (mw H) D (tyG H) [.ref (H.1 0), .int f] M PM) ∧ ∀ r X1 r2 M1, PX r X1 → PM r2 M1 → r = r2 ∧ Rel (k + 1) X1 M1 := by
  obtain ⟨E, N, B, d, D, l, L, L2, W, P, hq, hB, hS, hW, hT, hMt, hC, hRa, hRb, hRc, hP⟩ := id h
  refine ⟨_, _, fun l D => c_X8_findings l D G  X f , fun l D => c_X9_findings l D H  M f , mk2 (?_) (?_)⟩
  · unfold v_findings vM_findings vin
    rw [rq_times hq]
    by_cases h1 : f < 1
    · rw [if_pos h1, if_pos h1, if_pos rfl]
    · rw [if_neg h1, if_neg h1]
      by_cases h2 : f ≤ 5
      · rw [if_pos h2, if_neg (Int32.not_lt.mpr h2), if_neg (by decide)]
      · rw [if_neg h2, if_pos (Int32.not_le.mp h2), if_pos rfl]
  · exact Rel_mono h

theorem law_why {k : Nat} {X M : St} (h : Rel k X M) (w : Int32) (G H : Gx) : ∃ PX PM : Int32 → St → Prop, (∀ l D, Ci l yX8_why cX8_why 3 (some .int) 2 (xw G) D (tyG G) [.ref (G.1 0), .int w] X PX) ∧ (∀ l D, Ci l yX9_why cX9_why 3 (some .int) 3 (mw H) D (tyG H) [.ref (H.1 0), .int w] M PM) ∧ ∀ r X1 r2 M1, PX r X1 → PM r2 M1 → r = r2 ∧ Rel (k + 1) X1 M1 := by
  obtain ⟨E, N, B, d, D, l, L, L2, W, P, hq, hB, hS, hW, hT, hMt, hC, hRa, hRb, hRc, hP⟩ := id h
  refine ⟨_, _, fun l D => c_X8_why l D G E X w hB.2.2.1 hB.1, fun l D => c_X9_why l D H E M w ((congrFun (rq_ever hq) 0).symm.trans hB.2.2.1) hB.1, mk2 (?_) (?_)⟩
  · unfold v_why vM_why
    refine nd_n hq hB (by decide) (fun h0 => ?_)
    obtain ⟨v, h1, h2, h3, h4, h5⟩ := ref0 hB h0
    rw [h4]; exact (hRa.1 v h2 h5).1
  · exact Rel_ref h w 1 (by decide)

theorem law_rungBeside {k : Nat} {X M : St} (h : Rel k X M) (w : Int32) (G H : Gx) : ∃ PX PM : Int32 → St → Prop, (∀ l D, Ci l yX8_rungBeside cX8_rungBeside 3 (some .int) 2 (xw G) D (tyG G) [.ref (G.1 0), .int w] X PX) ∧ (∀ l D, Ci l yX9_rungBeside cX9_rungBeside 3 (some .int) 3 (mw H) D (tyG H) [.ref (H.1 0), .int w] M PM) ∧ ∀ r X1 r2 M1, PX r X1 → PM r2 M1 → r = r2 ∧ Rel (k + 1) X1 M1 := by
  obtain ⟨E, N, B, d, D, l, L, L2, W, P, hq, hB, hS, hW, hT, hMt, hC, hRa, hRb, hRc, hP⟩ := id h
  refine ⟨_, _, fun l D => c_X8_rungBeside l D G E X w hB.2.2.1 hB.1, fun l D => c_X9_rungBeside l D H E M w ((congrFun (rq_ever hq) 0).symm.trans hB.2.2.1) hB.1, mk2 (?_) (?_)⟩
  · unfold v_rungBeside vM_rungBeside
    refine nd_n hq hB (by decide) (fun h0 => ?_)
    obtain ⟨v, h1, h2, h3, h4, h5⟩ := ref0 hB h0
    rw [h4]; exact (hRa.1 v h2 h5).2.2.2
  · exact Rel_ref h w 1 (by decide)

theorem law_absent {k : Nat} {X M : St} (h : Rel k X M) (w : Int32) (a : Int32) (G H : Gx) : ∃ PX PM : Int32 → St → Prop, (∀ l D, Ci l yX8_absent cX8_absent 5 (some .int) 2 (xw G) D (tyG G) [.ref (G.1 0), .int w, .int a] X PX) ∧ (∀ l D, Ci l yX9_absent cX9_absent 5 (some .int) 3 (mw H) D (tyG H) [.ref (H.1 0), .int w, .int a] M PM) ∧ ∀ r X1 r2 M1, PX r X1 → PM r2 M1 → r = r2 ∧ Rel (k + 1) X1 M1 := by
  obtain ⟨E, N, B, d, D, l, L, L2, W, P, hq, hB, hS, hW, hT, hMt, hC, hRa, hRb, hRc, hP⟩ := id h
  refine ⟨_, _, fun l D => c_X8_absent l D G E X w a hB.2.2.1 hB.1, fun l D => c_X9_absent l D H E M w a ((congrFun (rq_ever hq) 0).symm.trans hB.2.2.1) hB.1, mk2 (?_) (?_)⟩
  · unfold v_absent vM_absent
    refine nd_n hq hB (by decide) (fun h0 => ?_)
    rw [rq_away hq]
  · unfold s_absent sM_absent
    by_cases h4 : v_ref X w = 0
    · rw [if_pos h4, if_pos (by rw [← ref_eq hq hB w 1 (by decide)]; exact ref_ge.mp h4)]
      exact ⟨E, N, B, d, D, l, L, L2, W, P, (RQ_mk (@rq_latest X M hq) (@rq_times X M hq) (@rq_ever X M hq) (@rq_standing X M hq) (@rq_kind X M hq) (@rq_stable X M hq) (@rq_kin X M hq) (@rq_wins X M hq) (@rq_losses X M hq) (@rq_titles X M hq) (@rq_marks X M hq) (@rq_gone X M hq) (by show upd (X 19) (ix w) _ = upd (M 6) (ix w) _; rw [rq_away hq]) (@rq_board X M hq) (@rq_ssize X M hq) (@rq_teller X M hq) (@rq_going X M hq) (@rq_days X M hq) (@rq_drawn X M hq) (@rq_bouts X M hq) (@rq_lacking X M hq) (@rq_cost X M hq) (@rq_satOut X M hq) (@rq_day X M hq) (@rq_upper X M hq) (@rq_lower X M hq) (@rq_winner X M hq) (@rq_lines X M hq) (@rq_low X M hq) (@rq_high X M hq) (@rq_up X M hq) (@rq_wtimes X M hq) (@rq_fresh X M hq) (@rq_linesThen X M hq) (@rq_former X M hq) (@rq_row X M hq) (@rq_begun X M hq) (@rq_holder X M hq)), hB, IS_cg hS rfl rfl (i4 rfl rfl rfl rfl) rfl, IW_mono hW, hT, hMt, hC, hRa, hRb, hRc, hP⟩
    · rw [if_neg h4, if_neg (fun q => h4 (ref_ge.mpr (by rw [ref_eq hq hB w 1 (by decide)]; exact q)))]
      exact Rel_ref h w 1 (by decide)
