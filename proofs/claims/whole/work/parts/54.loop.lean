theorem tosw {x : Int32} : (¬ x.toInt < 0 ∧ ¬ 35 < x.toInt) ∨ (x.toInt < 0 ∨ 35 < x.toInt) := by omega
theorem law_sw {K : Cx} {I : ClassId × ClassId × ClassId × ClassId × ClassId} {g h : Nat → Nat} {b L kc ns : Nat} {xs : Nat → Int32} {k : Nat} {X M : St} (C : NC K 4 cL_law RL room_1 (tyG (g, I))) (S : SC K b L xs) (hcs : kc ≤ room_1.cells ∧ ns ≤ room_1.slots) (hR : Rel k X M) (hk : k < 512) (hi : 6 * k + 6 ≤ L) (hL : L ≤ 3072) (fin : ∀ X1 M1 : St, Rel (k + 1) X1 M1 → WN K 4 kc ns (xw (g, I) X1 ++ mw (h, I) M1) 1185 [(0, .ref b), (1, .ref (g 0)), (2, .ref (h 0)), (3, .int (nI (6 * k)))] []) (x : Int32) : WN K 4 kc ns (xw (g, I) X ++ mw (h, I) M) 33 [(0, .ref b), (1, .ref (g 0)), (2, .ref (h 0)), (3, .int (nI (6 * k)))] [.int x] := by
  rcases tosw (x := x) with ⟨h1, h2⟩ | hout
  · obtain ⟨j, hj⟩ : ∃ j : Nat, x.toInt = (j : Int) := ⟨x.toInt.toNat, by omega⟩
    have hj36 : j < 36 := by omega
    match j, hj36, hj with
    | 0, _, hj => exact n_tin C (pc := 33) (off := 159) (tgt := 192) dL_law_33 h1 h2 (by rw [hj]; rfl) (by decide) (case_wrestler C S hcs hR hk hi hL fin)
    | 1, _, hj => exact n_tin C (pc := 33) (off := 202) (tgt := 235) dL_law_33 h1 h2 (by rw [hj]; rfl) (by decide) (case_leave C S hcs hR hk hi hL fin)
    | 2, _, hj => exact n_tin C (pc := 33) (off := 225) (tgt := 258) dL_law_33 h1 h2 (by rw [hj]; rfl) (by decide) (case_told C S hcs hR hk hi hL fin)
    | 3, _, hj => exact n_tin C (pc := 33) (off := 258) (tgt := 291) dL_law_33 h1 h2 (by rw [hj]; rfl) (by decide) (case_is C S hcs hR hk hi hL fin)
    | 4, _, hj => exact n_tin C (pc := 33) (off := 291) (tgt := 324) dL_law_33 h1 h2 (by rw [hj]; rfl) (by decide) (case_on C S hcs hR hk hi hL fin)
    | 5, _, hj => exact n_tin C (pc := 33) (off := 314) (tgt := 347) dL_law_33 h1 h2 (by rw [hj]; rfl) (by decide) (case_mark C S hcs hR hk hi hL fin)
    | 6, _, hj => exact n_tin C (pc := 33) (off := 347) (tgt := 380) dL_law_33 h1 h2 (by rw [hj]; rfl) (by decide) (case_mean C S hcs hR hk hi hL fin)
    | 7, _, hj => exact n_tin C (pc := 33) (off := 370) (tgt := 403) dL_law_33 h1 h2 (by rw [hj]; rfl) (by decide) (case_sheet C S hcs hR hk hi hL fin)
    | 8, _, hj => exact n_tin C (pc := 33) (off := 403) (tgt := 436) dL_law_33 h1 h2 (by rw [hj]; rfl) (by decide) (case_lay C S hcs hR hk hi hL fin)
    | 9, _, hj => exact n_tin C (pc := 33) (off := 446) (tgt := 479) dL_law_33 h1 h2 (by rw [hj]; rfl) (by decide) (case_tear C S hcs hR hk hi hL fin)
    | 10, _, hj => exact n_tin C (pc := 33) (off := 469) (tgt := 502) dL_law_33 h1 h2 (by rw [hj]; rfl) (by decide) (case_copy C S hcs hR hk hi hL fin)
    | 11, _, hj => exact n_tin C (pc := 33) (off := 532) (tgt := 565) dL_law_33 h1 h2 (by rw [hj]; rfl) (by decide) (case_prices C S hcs hR hk hi hL fin)
    | 12, _, hj => exact n_tin C (pc := 33) (off := 555) (tgt := 588) dL_law_33 h1 h2 (by rw [hj]; rfl) (by decide) (case_price C S hcs hR hk hi hL fin)
    | 13, _, hj => exact n_tin C (pc := 33) (off := 578) (tgt := 611) dL_law_33 h1 h2 (by rw [hj]; rfl) (by decide) (case_meet C S hcs hR hk hi hL fin)
    | 14, _, hj => exact n_tin C (pc := 33) (off := 601) (tgt := 634) dL_law_33 h1 h2 (by rw [hj]; rfl) (by decide) (case_absent C S hcs hR hk hi hL fin)
    | 15, _, hj => exact n_tin C (pc := 33) (off := 650) (tgt := 683) dL_law_33 h1 h2 (by rw [hj]; rfl) (by decide) (case_barred C S hcs hR hk hi hL fin)
    | 16, _, hj => exact n_tin C (pc := 33) (off := 683) (tgt := 716) dL_law_33 h1 h2 (by rw [hj]; rfl) (by decide) (case_draw C S hcs hR hk hi hL fin)
    | 17, _, hj => exact n_tin C (pc := 33) (off := 696) (tgt := 729) dL_law_33 h1 h2 (by rw [hj]; rfl) (by decide) (case_cost C S hcs hR hk hi hL fin)
    | 18, _, hj => exact n_tin C (pc := 33) (off := 709) (tgt := 742) dL_law_33 h1 h2 (by rw [hj]; rfl) (by decide) (case_result C S hcs hR hk hi hL fin)
    | 19, _, hj => exact n_tin C (pc := 33) (off := 758) (tgt := 791) dL_law_33 h1 h2 (by rw [hj]; rfl) (by decide) (case_bout C S hcs hR hk hi hL fin)
    | 20, _, hj => exact n_tin C (pc := 33) (off := 791) (tgt := 824) dL_law_33 h1 h2 (by rw [hj]; rfl) (by decide) (case_sat C S hcs hR hk hi hL fin)
    | 21, _, hj => exact n_tin C (pc := 33) (off := 804) (tgt := 837) dL_law_33 h1 h2 (by rw [hj]; rfl) (by decide) (case_line C S hcs hR hk hi hL fin)
    | 22, _, hj => exact n_tin C (pc := 33) (off := 847) (tgt := 880) dL_law_33 h1 h2 (by rw [hj]; rfl) (by decide) (case_anew C S hcs hR hk hi hL fin)
    | 23, _, hj => exact n_tin C (pc := 33) (off := 860) (tgt := 893) dL_law_33 h1 h2 (by rw [hj]; rfl) (by decide) (case_why C S hcs hR hk hi hL fin)
    | 24, _, hj => exact n_tin C (pc := 33) (off := 883) (tgt := 916) dL_law_33 h1 h2 (by rw [hj]; rfl) (by decide) (case_passed C S hcs hR hk hi hL fin)
    | 25, _, hj => exact n_tin C (pc := 33) (off := 916) (tgt := 949) dL_law_33 h1 h2 (by rw [hj]; rfl) (by decide) (case_beside C S hcs hR hk hi hL fin)
    | 26, _, hj => exact n_tin C (pc := 33) (off := 939) (tgt := 972) dL_law_33 h1 h2 (by rw [hj]; rfl) (by decide) (case_rungBeside C S hcs hR hk hi hL fin)
    | 27, _, hj => exact n_tin C (pc := 33) (off := 962) (tgt := 995) dL_law_33 h1 h2 (by rw [hj]; rfl) (by decide) (case_leaders C S hcs hR hk hi hL fin)
    | 28, _, hj => exact n_tin C (pc := 33) (off := 975) (tgt := 1008) dL_law_33 h1 h2 (by rw [hj]; rfl) (by decide) (case_playOff C S hcs hR hk hi hL fin)
    | 29, _, hj => exact n_tin C (pc := 33) (off := 988) (tgt := 1021) dL_law_33 h1 h2 (by rw [hj]; rfl) (by decide) (case_meets C S hcs hR hk hi hL fin)
    | 30, _, hj => exact n_tin C (pc := 33) (off := 1027) (tgt := 1060) dL_law_33 h1 h2 (by rw [hj]; rfl) (by decide) (case_wins C S hcs hR hk hi hL fin)
    | 31, _, hj => exact n_tin C (pc := 33) (off := 1066) (tgt := 1099) dL_law_33 h1 h2 (by rw [hj]; rfl) (by decide) (case_champion C S hcs hR hk hi hL fin)
    | 32, _, hj => exact n_tin C (pc := 33) (off := 1079) (tgt := 1112) dL_law_33 h1 h2 (by rw [hj]; rfl) (by decide) (case_count C S hcs hR hk hi hL fin)
    | 33, _, hj => exact n_tin C (pc := 33) (off := 1102) (tgt := 1135) dL_law_33 h1 h2 (by rw [hj]; rfl) (by decide) (case_finding C S hcs hR hk hi hL fin)
    | 34, _, hj => exact n_tin C (pc := 33) (off := 1115) (tgt := 1148) dL_law_33 h1 h2 (by rw [hj]; rfl) (by decide) (case_findings C S hcs hR hk hi hL fin)
    | 35, _, hj => exact n_tin C (pc := 33) (off := 1138) (tgt := 1171) dL_law_33 h1 h2 (by rw [hj]; rfl) (by decide) (case_digest C S hcs hR hk hi hL fin)
    | n + 36, h, _ => exact absurd h (by omega)
  · exact n_tout C (pc := 33) (tgt := 1185) dL_law_33 hout (by decide) (fin X M (Rel_mono hR))
theorem law_loop {K : Cx} {I : ClassId × ClassId × ClassId × ClassId × ClassId} {g h : Nat → Nat} {b L kc ns : Nat} {xs : Nat → Int32} (C : NC K 4 cL_law RL room_1 (tyG (g, I))) (S : SC K b L xs) (hcs : kc ≤ room_1.cells ∧ ns ≤ room_1.slots) (hL : L ≤ 3072) (ret : ∀ (X M : St) (lv : List (Nat × Value)), WN K 4 kc ns (xw (g, I) X ++ mw (h, I) M) 1192 lv [.int 1]) : ∀ (n k : Nat) (X M : St), Rel k X M → 6 * k ≤ L → L < 6 * k + n → WN K 4 kc ns (xw (g, I) X ++ mw (h, I) M) 18 [(0, .ref b), (1, .ref (g 0)), (2, .ref (h 0)), (3, .int (nI (6 * k)))] [] := by
  intro n
  induction n with
  | zero => intro k X M _ h1 h2; omega
  | succ n ih =>
    intro k X M hR h1 h2
    refine n_iload_n C (pc := 18) dL_law_18 3 rfl rfl ?_
    refine n_aload_n C (pc := 19) dL_law_19 0 rfl rfl ?_
    refine n_slen C S (pc := 20) dL_law_20 ?_
    refine n_bipush C (pc := 21) (v := 6) dL_law_21 (by decide) ?_
    refine n_isub C (pc := 23) dL_law_23 ?_
    refine n_icmp_gt C (pc := 24) (tgt := 1191) dL_law_24 (by decide) (fun _ => ?_) (fun q => ?_)
    · exact n_iconst C (pc := 1191) (v := 1) dL_law_1191 (by decide) (ret X M _)
    · have hlt : 6 * k + 6 ≤ L := by
        rcases Nat.lt_or_ge L (6 * k + 6) with z | z
        · exact absurd ((gt_L hL (by omega)).mpr z) q
        · exact z
      refine n_arg0 C S (pc := 27) (by omega) hL dL_law_27 dL_law_28 dL_law_29 ?_
      refine n_bipush C (pc := 30) (v := 63) dL_law_30 (by decide) ?_
      refine n_iand C (pc := 32) dL_law_32 ?_
      refine law_sw C S hcs hR (by omega) hlt hL (fun X1 M1 hR1 => ?_) _
      refine n_iinc C (pc := 1185) (v := nI (6 * (k + 1))) dL_law_1185 3 [(0, .ref b), (1, .ref (g 0)), (2, .ref (h 0)), (3, .int (nI (6 * (k + 1))))] [1, 2, 3, 0] rfl (show nI (6 * k) + nI 6 = nI (6 * (k + 1)) by rw [nI_add]; rfl) (by decide) rfl ?_
      refine n_goto C (pc := 1188) (tgt := 18) dL_law_1188 (by decide) ?_
      exact ih (k + 1) X1 M1 hR1 (by omega) (by omega)
