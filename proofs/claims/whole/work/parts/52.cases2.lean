theorem case_passed {K : Cx} {I : ClassId × ClassId × ClassId × ClassId × ClassId} {g h : Nat → Nat} {b L kc ns : Nat} {xs : Nat → Int32} {k : Nat} {X M : St} (C : NC K 4 cL_law RL room_1 (tyG (g, I))) (S : SC K b L xs) (hcs : kc ≤ room_1.cells ∧ ns ≤ room_1.slots) (hR : Rel k X M) (hk : k < 512) (hi : 6 * k + 6 ≤ L) (hL : L ≤ 3072) (fin : ∀ X1 M1 : St, Rel (k + 1) X1 M1 → WN K 4 kc ns (xw (g, I) X1 ++ mw (h, I) M1) 1185 [(0, .ref b), (1, .ref (g 0)), (2, .ref (h 0)), (3, .int (nI (6 * k)))] []) : WN K 4 kc ns (xw (g, I) X ++ mw (h, I) M) 916 [(0, .ref b), (1, .ref (g 0)), (2, .ref (h 0)), (3, .int (nI (6 * k)))] [] := by
  obtain ⟨PX, PM, hX, hM, hf⟩ := law_passed hR (xs (6 * k + 1)) (xs (6 * k + 2)) (g, I) (h, I)
  refine n_aload_n C (pc := 916) dL_law_916 1 rfl rfl ?_
  refine n_arg C S (pc := 917) (j := 1) (by decide) (by omega) hL dL_law_917 dL_law_918 dL_law_919 dL_law_920 dL_law_921 ?_
  refine n_arg C S (pc := 922) (j := 2) (by decide) (by omega) hL dL_law_922 dL_law_923 dL_law_924 dL_law_925 dL_law_926 ?_
  refine n_callVi C (pc := 927) (wf := xw (g, I)) (xw_adr _) [.int (xs (6 * k + 1)), .int (xs (6 * k + 2))] hX (xe_0 (g, I) X) rfl ml_L_115 co_X8_passed im_X8_passed se_X8_passed in_X8 hy_X8_passed (Nat.le_of_ble_eq_true rfl) (Nat.le_of_ble_eq_true rfl) (Nat.le_of_ble_eq_true rfl) hcs dL_law_927 rfl (fun r X1 p1 => ?_)
  refine n_swap ?_
  refine n_aload_n C (pc := 930) dL_law_930 2 rfl rfl ?_
  refine n_arg C S (pc := 931) (j := 1) (by decide) (by omega) hL dL_law_931 dL_law_932 dL_law_933 dL_law_934 dL_law_935 ?_
  refine n_arg C S (pc := 936) (j := 2) (by decide) (by omega) hL dL_law_936 dL_law_937 dL_law_938 dL_law_939 dL_law_940 ?_
  refine n_callVi C (pc := 941) (wf := mw (h, I)) (mw_adr _) [.int (xs (6 * k + 1)), .int (xs (6 * k + 2))] hM (me_0 (h, I) M) rfl ml_L_118 co_X9_passed im_X9_passed se_X9_passed in_X9 hy_X9_passed (Nat.le_of_ble_eq_true rfl) (Nat.le_of_ble_eq_true rfl) (Nat.le_of_ble_eq_true rfl) hcs dL_law_941 rfl (fun r2 M1 p2 => ?_)
  refine n_swap ?_
  obtain ⟨e, hR1⟩ := hf r X1 r2 M1 p1 p2
  exact n_icmp_eq C (pc := 944) (tgt := 1185) dL_law_944 (by decide) (fun _ => fin X1 M1 hR1) (fun q => absurd e q)
theorem case_beside {K : Cx} {I : ClassId × ClassId × ClassId × ClassId × ClassId} {g h : Nat → Nat} {b L kc ns : Nat} {xs : Nat → Int32} {k : Nat} {X M : St} (C : NC K 4 cL_law RL room_1 (tyG (g, I))) (S : SC K b L xs) (hcs : kc ≤ room_1.cells ∧ ns ≤ room_1.slots) (hR : Rel k X M) (hk : k < 512) (hi : 6 * k + 6 ≤ L) (hL : L ≤ 3072) (fin : ∀ X1 M1 : St, Rel (k + 1) X1 M1 → WN K 4 kc ns (xw (g, I) X1 ++ mw (h, I) M1) 1185 [(0, .ref b), (1, .ref (g 0)), (2, .ref (h 0)), (3, .int (nI (6 * k)))] []) : WN K 4 kc ns (xw (g, I) X ++ mw (h, I) M) 949 [(0, .ref b), (1, .ref (g 0)), (2, .ref (h 0)), (3, .int (nI (6 * k)))] [] := by
  obtain ⟨PX, PM, hX, hM, hf⟩ := law_beside hR (xs (6 * k + 1)) (g, I) (h, I)
  refine n_aload_n C (pc := 949) dL_law_949 1 rfl rfl ?_
  refine n_arg C S (pc := 950) (j := 1) (by decide) (by omega) hL dL_law_950 dL_law_951 dL_law_952 dL_law_953 dL_law_954 ?_
  refine n_callVi C (pc := 955) (wf := xw (g, I)) (xw_adr _) [.int (xs (6 * k + 1))] hX (xe_0 (g, I) X) rfl ml_L_119 co_X8_beside im_X8_beside se_X8_beside in_X8 hy_X8_beside (Nat.le_of_ble_eq_true rfl) (Nat.le_of_ble_eq_true rfl) (Nat.le_of_ble_eq_true rfl) hcs dL_law_955 rfl (fun r X1 p1 => ?_)
  refine n_swap ?_
  refine n_aload_n C (pc := 958) dL_law_958 2 rfl rfl ?_
  refine n_arg C S (pc := 959) (j := 1) (by decide) (by omega) hL dL_law_959 dL_law_960 dL_law_961 dL_law_962 dL_law_963 ?_
  refine n_callVi C (pc := 964) (wf := mw (h, I)) (mw_adr _) [.int (xs (6 * k + 1))] hM (me_0 (h, I) M) rfl ml_L_122 co_X9_beside im_X9_beside se_X9_beside in_X9 hy_X9_beside (Nat.le_of_ble_eq_true rfl) (Nat.le_of_ble_eq_true rfl) (Nat.le_of_ble_eq_true rfl) hcs dL_law_964 rfl (fun r2 M1 p2 => ?_)
  refine n_swap ?_
  obtain ⟨e, hR1⟩ := hf r X1 r2 M1 p1 p2
  exact n_icmp_eq C (pc := 967) (tgt := 1185) dL_law_967 (by decide) (fun _ => fin X1 M1 hR1) (fun q => absurd e q)
theorem case_rungBeside {K : Cx} {I : ClassId × ClassId × ClassId × ClassId × ClassId} {g h : Nat → Nat} {b L kc ns : Nat} {xs : Nat → Int32} {k : Nat} {X M : St} (C : NC K 4 cL_law RL room_1 (tyG (g, I))) (S : SC K b L xs) (hcs : kc ≤ room_1.cells ∧ ns ≤ room_1.slots) (hR : Rel k X M) (hk : k < 512) (hi : 6 * k + 6 ≤ L) (hL : L ≤ 3072) (fin : ∀ X1 M1 : St, Rel (k + 1) X1 M1 → WN K 4 kc ns (xw (g, I) X1 ++ mw (h, I) M1) 1185 [(0, .ref b), (1, .ref (g 0)), (2, .ref (h 0)), (3, .int (nI (6 * k)))] []) : WN K 4 kc ns (xw (g, I) X ++ mw (h, I) M) 972 [(0, .ref b), (1, .ref (g 0)), (2, .ref (h 0)), (3, .int (nI (6 * k)))] [] := by
  obtain ⟨PX, PM, hX, hM, hf⟩ := law_rungBeside hR (xs (6 * k + 1)) (g, I) (h, I)
  refine n_aload_n C (pc := 972) dL_law_972 1 rfl rfl ?_
  refine n_arg C S (pc := 973) (j := 1) (by decide) (by omega) hL dL_law_973 dL_law_974 dL_law_975 dL_law_976 dL_law_977 ?_
  refine n_callVi C (pc := 978) (wf := xw (g, I)) (xw_adr _) [.int (xs (6 * k + 1))] hX (xe_0 (g, I) X) rfl ml_L_123 co_X8_rungBeside im_X8_rungBeside se_X8_rungBeside in_X8 hy_X8_rungBeside (Nat.le_of_ble_eq_true rfl) (Nat.le_of_ble_eq_true rfl) (Nat.le_of_ble_eq_true rfl) hcs dL_law_978 rfl (fun r X1 p1 => ?_)
  refine n_swap ?_
  refine n_aload_n C (pc := 981) dL_law_981 2 rfl rfl ?_
  refine n_arg C S (pc := 982) (j := 1) (by decide) (by omega) hL dL_law_982 dL_law_983 dL_law_984 dL_law_985 dL_law_986 ?_
  refine n_callVi C (pc := 987) (wf := mw (h, I)) (mw_adr _) [.int (xs (6 * k + 1))] hM (me_0 (h, I) M) rfl ml_L_126 co_X9_rungBeside im_X9_rungBeside se_X9_rungBeside in_X9 hy_X9_rungBeside (Nat.le_of_ble_eq_true rfl) (Nat.le_of_ble_eq_true rfl) (Nat.le_of_ble_eq_true rfl) hcs dL_law_987 rfl (fun r2 M1 p2 => ?_)
  refine n_swap ?_
  obtain ⟨e, hR1⟩ := hf r X1 r2 M1 p1 p2
  exact n_icmp_eq C (pc := 990) (tgt := 1185) dL_law_990 (by decide) (fun _ => fin X1 M1 hR1) (fun q => absurd e q)
theorem case_leaders {K : Cx} {I : ClassId × ClassId × ClassId × ClassId × ClassId} {g h : Nat → Nat} {b L kc ns : Nat} {xs : Nat → Int32} {k : Nat} {X M : St} (C : NC K 4 cL_law RL room_1 (tyG (g, I))) (S : SC K b L xs) (hcs : kc ≤ room_1.cells ∧ ns ≤ room_1.slots) (hR : Rel k X M) (hk : k < 512) (hi : 6 * k + 6 ≤ L) (hL : L ≤ 3072) (fin : ∀ X1 M1 : St, Rel (k + 1) X1 M1 → WN K 4 kc ns (xw (g, I) X1 ++ mw (h, I) M1) 1185 [(0, .ref b), (1, .ref (g 0)), (2, .ref (h 0)), (3, .int (nI (6 * k)))] []) : WN K 4 kc ns (xw (g, I) X ++ mw (h, I) M) 995 [(0, .ref b), (1, .ref (g 0)), (2, .ref (h 0)), (3, .int (nI (6 * k)))] [] := by
  obtain ⟨PX, PM, hX, hM, hf⟩ := law_leaders hR (g, I) (h, I)
  refine n_aload_n C (pc := 995) dL_law_995 1 rfl rfl ?_
  refine n_callVi C (pc := 996) (wf := xw (g, I)) (xw_adr _) [] hX (xe_0 (g, I) X) rfl ml_L_127 co_X8_leaders im_X8_leaders se_X8_leaders in_X8 hy_X8_leaders (Nat.le_of_ble_eq_true rfl) (Nat.le_of_ble_eq_true rfl) (Nat.le_of_ble_eq_true rfl) hcs dL_law_996 rfl (fun r X1 p1 => ?_)
  refine n_swap ?_
  refine n_aload_n C (pc := 999) dL_law_999 2 rfl rfl ?_
  refine n_callVi C (pc := 1000) (wf := mw (h, I)) (mw_adr _) [] hM (me_0 (h, I) M) rfl ml_L_130 co_X9_leaders im_X9_leaders se_X9_leaders in_X9 hy_X9_leaders (Nat.le_of_ble_eq_true rfl) (Nat.le_of_ble_eq_true rfl) (Nat.le_of_ble_eq_true rfl) hcs dL_law_1000 rfl (fun r2 M1 p2 => ?_)
  refine n_swap ?_
  obtain ⟨e, hR1⟩ := hf r X1 r2 M1 p1 p2
  exact n_icmp_eq C (pc := 1003) (tgt := 1185) dL_law_1003 (by decide) (fun _ => fin X1 M1 hR1) (fun q => absurd e q)
theorem case_playOff {K : Cx} {I : ClassId × ClassId × ClassId × ClassId × ClassId} {g h : Nat → Nat} {b L kc ns : Nat} {xs : Nat → Int32} {k : Nat} {X M : St} (C : NC K 4 cL_law RL room_1 (tyG (g, I))) (S : SC K b L xs) (hcs : kc ≤ room_1.cells ∧ ns ≤ room_1.slots) (hR : Rel k X M) (hk : k < 512) (hi : 6 * k + 6 ≤ L) (hL : L ≤ 3072) (fin : ∀ X1 M1 : St, Rel (k + 1) X1 M1 → WN K 4 kc ns (xw (g, I) X1 ++ mw (h, I) M1) 1185 [(0, .ref b), (1, .ref (g 0)), (2, .ref (h 0)), (3, .int (nI (6 * k)))] []) : WN K 4 kc ns (xw (g, I) X ++ mw (h, I) M) 1008 [(0, .ref b), (1, .ref (g 0)), (2, .ref (h 0)), (3, .int (nI (6 * k)))] [] := by
  obtain ⟨PX, PM, hX, hM, hf⟩ := law_playOff hR (g, I) (h, I)
  refine n_aload_n C (pc := 1008) dL_law_1008 1 rfl rfl ?_
  refine n_callVi C (pc := 1009) (wf := xw (g, I)) (xw_adr _) [] hX (xe_0 (g, I) X) rfl ml_L_131 co_X8_playOff im_X8_playOff se_X8_playOff in_X8 hy_X8_playOff (Nat.le_of_ble_eq_true rfl) (Nat.le_of_ble_eq_true rfl) (Nat.le_of_ble_eq_true rfl) hcs dL_law_1009 rfl (fun r X1 p1 => ?_)
  refine n_swap ?_
  refine n_aload_n C (pc := 1012) dL_law_1012 2 rfl rfl ?_
  refine n_callVi C (pc := 1013) (wf := mw (h, I)) (mw_adr _) [] hM (me_0 (h, I) M) rfl ml_L_134 co_X9_playOff im_X9_playOff se_X9_playOff in_X9 hy_X9_playOff (Nat.le_of_ble_eq_true rfl) (Nat.le_of_ble_eq_true rfl) (Nat.le_of_ble_eq_true rfl) hcs dL_law_1013 rfl (fun r2 M1 p2 => ?_)
  refine n_swap ?_
  obtain ⟨e, hR1⟩ := hf r X1 r2 M1 p1 p2
  exact n_icmp_eq C (pc := 1016) (tgt := 1185) dL_law_1016 (by decide) (fun _ => fin X1 M1 hR1) (fun q => absurd e q)
theorem case_meets {K : Cx} {I : ClassId × ClassId × ClassId × ClassId × ClassId} {g h : Nat → Nat} {b L kc ns : Nat} {xs : Nat → Int32} {k : Nat} {X M : St} (C : NC K 4 cL_law RL room_1 (tyG (g, I))) (S : SC K b L xs) (hcs : kc ≤ room_1.cells ∧ ns ≤ room_1.slots) (hR : Rel k X M) (hk : k < 512) (hi : 6 * k + 6 ≤ L) (hL : L ≤ 3072) (fin : ∀ X1 M1 : St, Rel (k + 1) X1 M1 → WN K 4 kc ns (xw (g, I) X1 ++ mw (h, I) M1) 1185 [(0, .ref b), (1, .ref (g 0)), (2, .ref (h 0)), (3, .int (nI (6 * k)))] []) : WN K 4 kc ns (xw (g, I) X ++ mw (h, I) M) 1021 [(0, .ref b), (1, .ref (g 0)), (2, .ref (h 0)), (3, .int (nI (6 * k)))] [] := by
  obtain ⟨PX, PM, hX, hM, hf⟩ := law_meets hR (if xs (6 * k + 1) = 0 then 0 else 1) (g, I) (h, I)
  refine n_aload_n C (pc := 1021) dL_law_1021 1 rfl rfl ?_
  refine n_arg C S (pc := 1022) (j := 1) (by decide) (by omega) hL dL_law_1022 dL_law_1023 dL_law_1024 dL_law_1025 dL_law_1026 ?_
  refine n_bool C (pc := 1027) dL_law_1027 dL_law_1030 dL_law_1031 dL_law_1034 ?_
  refine n_callVi C (pc := 1035) (wf := xw (g, I)) (xw_adr _) [.int (if xs (6 * k + 1) = 0 then 0 else 1)] hX (xe_0 (g, I) X) rfl ml_L_135 co_X8_meets im_X8_meets se_X8_meets in_X8 hy_X8_meets (Nat.le_of_ble_eq_true rfl) (Nat.le_of_ble_eq_true rfl) (Nat.le_of_ble_eq_true rfl) hcs dL_law_1035 rfl (fun r X1 p1 => ?_)
  refine n_swap ?_
  refine n_aload_n C (pc := 1038) dL_law_1038 2 rfl rfl ?_
  refine n_arg C S (pc := 1039) (j := 1) (by decide) (by omega) hL dL_law_1039 dL_law_1040 dL_law_1041 dL_law_1042 dL_law_1043 ?_
  refine n_bool C (pc := 1044) dL_law_1044 dL_law_1047 dL_law_1048 dL_law_1051 ?_
  refine n_callVi C (pc := 1052) (wf := mw (h, I)) (mw_adr _) [.int (if xs (6 * k + 1) = 0 then 0 else 1)] hM (me_0 (h, I) M) rfl ml_L_139 co_X9_meets_ im_X9_meets_ se_X9_meets_ in_X9 hy_X9_meets_ (Nat.le_of_ble_eq_true rfl) (Nat.le_of_ble_eq_true rfl) (Nat.le_of_ble_eq_true rfl) hcs dL_law_1052 rfl (fun r2 M1 p2 => ?_)
  refine n_swap ?_
  obtain ⟨e, hR1⟩ := hf r X1 r2 M1 p1 p2
  exact n_icmp_eq C (pc := 1055) (tgt := 1185) dL_law_1055 (by decide) (fun _ => fin X1 M1 hR1) (fun q => absurd e q)
theorem case_wins {K : Cx} {I : ClassId × ClassId × ClassId × ClassId × ClassId} {g h : Nat → Nat} {b L kc ns : Nat} {xs : Nat → Int32} {k : Nat} {X M : St} (C : NC K 4 cL_law RL room_1 (tyG (g, I))) (S : SC K b L xs) (hcs : kc ≤ room_1.cells ∧ ns ≤ room_1.slots) (hR : Rel k X M) (hk : k < 512) (hi : 6 * k + 6 ≤ L) (hL : L ≤ 3072) (fin : ∀ X1 M1 : St, Rel (k + 1) X1 M1 → WN K 4 kc ns (xw (g, I) X1 ++ mw (h, I) M1) 1185 [(0, .ref b), (1, .ref (g 0)), (2, .ref (h 0)), (3, .int (nI (6 * k)))] []) : WN K 4 kc ns (xw (g, I) X ++ mw (h, I) M) 1060 [(0, .ref b), (1, .ref (g 0)), (2, .ref (h 0)), (3, .int (nI (6 * k)))] [] := by
  obtain ⟨PX, PM, hX, hM, hf⟩ := law_wins hR (if xs (6 * k + 1) = 0 then 0 else 1) (g, I) (h, I)
  refine n_aload_n C (pc := 1060) dL_law_1060 1 rfl rfl ?_
  refine n_arg C S (pc := 1061) (j := 1) (by decide) (by omega) hL dL_law_1061 dL_law_1062 dL_law_1063 dL_law_1064 dL_law_1065 ?_
  refine n_bool C (pc := 1066) dL_law_1066 dL_law_1069 dL_law_1070 dL_law_1073 ?_
  refine n_callVi C (pc := 1074) (wf := xw (g, I)) (xw_adr _) [.int (if xs (6 * k + 1) = 0 then 0 else 1)] hX (xe_0 (g, I) X) rfl ml_L_140 co_X8_wins im_X8_wins se_X8_wins in_X8 hy_X8_wins (Nat.le_of_ble_eq_true rfl) (Nat.le_of_ble_eq_true rfl) (Nat.le_of_ble_eq_true rfl) hcs dL_law_1074 rfl (fun r X1 p1 => ?_)
  refine n_swap ?_
  refine n_aload_n C (pc := 1077) dL_law_1077 2 rfl rfl ?_
  refine n_arg C S (pc := 1078) (j := 1) (by decide) (by omega) hL dL_law_1078 dL_law_1079 dL_law_1080 dL_law_1081 dL_law_1082 ?_
  refine n_bool C (pc := 1083) dL_law_1083 dL_law_1086 dL_law_1087 dL_law_1090 ?_
  refine n_callVi C (pc := 1091) (wf := mw (h, I)) (mw_adr _) [.int (if xs (6 * k + 1) = 0 then 0 else 1)] hM (me_0 (h, I) M) rfl ml_L_143 co_X9_wins im_X9_wins se_X9_wins in_X9 hy_X9_wins (Nat.le_of_ble_eq_true rfl) (Nat.le_of_ble_eq_true rfl) (Nat.le_of_ble_eq_true rfl) hcs dL_law_1091 rfl (fun r2 M1 p2 => ?_)
  refine n_swap ?_
  obtain ⟨e, hR1⟩ := hf r X1 r2 M1 p1 p2
  exact n_icmp_eq C (pc := 1094) (tgt := 1185) dL_law_1094 (by decide) (fun _ => fin X1 M1 hR1) (fun q => absurd e q)
theorem case_champion {K : Cx} {I : ClassId × ClassId × ClassId × ClassId × ClassId} {g h : Nat → Nat} {b L kc ns : Nat} {xs : Nat → Int32} {k : Nat} {X M : St} (C : NC K 4 cL_law RL room_1 (tyG (g, I))) (S : SC K b L xs) (hcs : kc ≤ room_1.cells ∧ ns ≤ room_1.slots) (hR : Rel k X M) (hk : k < 512) (hi : 6 * k + 6 ≤ L) (hL : L ≤ 3072) (fin : ∀ X1 M1 : St, Rel (k + 1) X1 M1 → WN K 4 kc ns (xw (g, I) X1 ++ mw (h, I) M1) 1185 [(0, .ref b), (1, .ref (g 0)), (2, .ref (h 0)), (3, .int (nI (6 * k)))] []) : WN K 4 kc ns (xw (g, I) X ++ mw (h, I) M) 1099 [(0, .ref b), (1, .ref (g 0)), (2, .ref (h 0)), (3, .int (nI (6 * k)))] [] := by
  obtain ⟨PX, PM, hX, hM, hf⟩ := law_champion hR (g, I) (h, I)
  refine n_aload_n C (pc := 1099) dL_law_1099 1 rfl rfl ?_
  refine n_callVi C (pc := 1100) (wf := xw (g, I)) (xw_adr _) [] hX (xe_0 (g, I) X) rfl ml_L_144 co_X8_champion im_X8_champion se_X8_champion in_X8 hy_X8_champion (Nat.le_of_ble_eq_true rfl) (Nat.le_of_ble_eq_true rfl) (Nat.le_of_ble_eq_true rfl) hcs dL_law_1100 rfl (fun r X1 p1 => ?_)
  refine n_swap ?_
  refine n_aload_n C (pc := 1103) dL_law_1103 2 rfl rfl ?_
  refine n_callVi C (pc := 1104) (wf := mw (h, I)) (mw_adr _) [] hM (me_0 (h, I) M) rfl ml_L_147 co_X9_champion im_X9_champion se_X9_champion in_X9 hy_X9_champion (Nat.le_of_ble_eq_true rfl) (Nat.le_of_ble_eq_true rfl) (Nat.le_of_ble_eq_true rfl) hcs dL_law_1104 rfl (fun r2 M1 p2 => ?_)
  refine n_swap ?_
  obtain ⟨e, hR1⟩ := hf r X1 r2 M1 p1 p2
  exact n_icmp_eq C (pc := 1107) (tgt := 1185) dL_law_1107 (by decide) (fun _ => fin X1 M1 hR1) (fun q => absurd e q)
theorem case_count {K : Cx} {I : ClassId × ClassId × ClassId × ClassId × ClassId} {g h : Nat → Nat} {b L kc ns : Nat} {xs : Nat → Int32} {k : Nat} {X M : St} (C : NC K 4 cL_law RL room_1 (tyG (g, I))) (S : SC K b L xs) (hcs : kc ≤ room_1.cells ∧ ns ≤ room_1.slots) (hR : Rel k X M) (hk : k < 512) (hi : 6 * k + 6 ≤ L) (hL : L ≤ 3072) (fin : ∀ X1 M1 : St, Rel (k + 1) X1 M1 → WN K 4 kc ns (xw (g, I) X1 ++ mw (h, I) M1) 1185 [(0, .ref b), (1, .ref (g 0)), (2, .ref (h 0)), (3, .int (nI (6 * k)))] []) : WN K 4 kc ns (xw (g, I) X ++ mw (h, I) M) 1112 [(0, .ref b), (1, .ref (g 0)), (2, .ref (h 0)), (3, .int (nI (6 * k)))] [] := by
  obtain ⟨PX, PM, hX, hM, hf⟩ := law_count hR (xs (6 * k + 1)) (g, I) (h, I)
  refine n_aload_n C (pc := 1112) dL_law_1112 1 rfl rfl ?_
  refine n_arg C S (pc := 1113) (j := 1) (by decide) (by omega) hL dL_law_1113 dL_law_1114 dL_law_1115 dL_law_1116 dL_law_1117 ?_
  refine n_callVi C (pc := 1118) (wf := xw (g, I)) (xw_adr _) [.int (xs (6 * k + 1))] hX (xe_0 (g, I) X) rfl ml_L_148 co_X8_count im_X8_count se_X8_count in_X8 hy_X8_count (Nat.le_of_ble_eq_true rfl) (Nat.le_of_ble_eq_true rfl) (Nat.le_of_ble_eq_true rfl) hcs dL_law_1118 rfl (fun r X1 p1 => ?_)
  refine n_swap ?_
  refine n_aload_n C (pc := 1121) dL_law_1121 2 rfl rfl ?_
  refine n_arg C S (pc := 1122) (j := 1) (by decide) (by omega) hL dL_law_1122 dL_law_1123 dL_law_1124 dL_law_1125 dL_law_1126 ?_
  refine n_callVi C (pc := 1127) (wf := mw (h, I)) (mw_adr _) [.int (xs (6 * k + 1))] hM (me_0 (h, I) M) rfl ml_L_151 co_X9_count im_X9_count se_X9_count in_X9 hy_X9_count (Nat.le_of_ble_eq_true rfl) (Nat.le_of_ble_eq_true rfl) (Nat.le_of_ble_eq_true rfl) hcs dL_law_1127 rfl (fun r2 M1 p2 => ?_)
  refine n_swap ?_
  obtain ⟨e, hR1⟩ := hf r X1 r2 M1 p1 p2
  exact n_icmp_eq C (pc := 1130) (tgt := 1185) dL_law_1130 (by decide) (fun _ => fin X1 M1 hR1) (fun q => absurd e q)
theorem case_finding {K : Cx} {I : ClassId × ClassId × ClassId × ClassId × ClassId} {g h : Nat → Nat} {b L kc ns : Nat} {xs : Nat → Int32} {k : Nat} {X M : St} (C : NC K 4 cL_law RL room_1 (tyG (g, I))) (S : SC K b L xs) (hcs : kc ≤ room_1.cells ∧ ns ≤ room_1.slots) (hR : Rel k X M) (hk : k < 512) (hi : 6 * k + 6 ≤ L) (hL : L ≤ 3072) (fin : ∀ X1 M1 : St, Rel (k + 1) X1 M1 → WN K 4 kc ns (xw (g, I) X1 ++ mw (h, I) M1) 1185 [(0, .ref b), (1, .ref (g 0)), (2, .ref (h 0)), (3, .int (nI (6 * k)))] []) : WN K 4 kc ns (xw (g, I) X ++ mw (h, I) M) 1135 [(0, .ref b), (1, .ref (g 0)), (2, .ref (h 0)), (3, .int (nI (6 * k)))] [] := by
  obtain ⟨PX, PM, hX, hM, hf⟩ := law_finding hR (g, I) (h, I)
  refine n_aload_n C (pc := 1135) dL_law_1135 1 rfl rfl ?_
  refine n_callVi C (pc := 1136) (wf := xw (g, I)) (xw_adr _) [] hX (xe_0 (g, I) X) rfl ml_L_152 co_X8_finding im_X8_finding se_X8_finding in_X8 hy_X8_finding (Nat.le_of_ble_eq_true rfl) (Nat.le_of_ble_eq_true rfl) (Nat.le_of_ble_eq_true rfl) hcs dL_law_1136 rfl (fun r X1 p1 => ?_)
  refine n_swap ?_
  refine n_aload_n C (pc := 1139) dL_law_1139 2 rfl rfl ?_
  refine n_callVi C (pc := 1140) (wf := mw (h, I)) (mw_adr _) [] hM (me_0 (h, I) M) rfl ml_L_155 co_X9_finding im_X9_finding se_X9_finding in_X9 hy_X9_finding (Nat.le_of_ble_eq_true rfl) (Nat.le_of_ble_eq_true rfl) (Nat.le_of_ble_eq_true rfl) hcs dL_law_1140 rfl (fun r2 M1 p2 => ?_)
  refine n_swap ?_
  obtain ⟨e, hR1⟩ := hf r X1 r2 M1 p1 p2
  exact n_icmp_eq C (pc := 1143) (tgt := 1185) dL_law_1143 (by decide) (fun _ => fin X1 M1 hR1) (fun q => absurd e q)
theorem case_findings {K : Cx} {I : ClassId × ClassId × ClassId × ClassId × ClassId} {g h : Nat → Nat} {b L kc ns : Nat} {xs : Nat → Int32} {k : Nat} {X M : St} (C : NC K 4 cL_law RL room_1 (tyG (g, I))) (S : SC K b L xs) (hcs : kc ≤ room_1.cells ∧ ns ≤ room_1.slots) (hR : Rel k X M) (hk : k < 512) (hi : 6 * k + 6 ≤ L) (hL : L ≤ 3072) (fin : ∀ X1 M1 : St, Rel (k + 1) X1 M1 → WN K 4 kc ns (xw (g, I) X1 ++ mw (h, I) M1) 1185 [(0, .ref b), (1, .ref (g 0)), (2, .ref (h 0)), (3, .int (nI (6 * k)))] []) : WN K 4 kc ns (xw (g, I) X ++ mw (h, I) M) 1148 [(0, .ref b), (1, .ref (g 0)), (2, .ref (h 0)), (3, .int (nI (6 * k)))] [] := by
  obtain ⟨PX, PM, hX, hM, hf⟩ := law_findings hR (xs (6 * k + 1)) (g, I) (h, I)
  refine n_aload_n C (pc := 1148) dL_law_1148 1 rfl rfl ?_
  refine n_arg C S (pc := 1149) (j := 1) (by decide) (by omega) hL dL_law_1149 dL_law_1150 dL_law_1151 dL_law_1152 dL_law_1153 ?_
  refine n_callVi C (pc := 1154) (wf := xw (g, I)) (xw_adr _) [.int (xs (6 * k + 1))] hX (xe_0 (g, I) X) rfl ml_L_156 co_X8_findings im_X8_findings se_X8_findings in_X8 hy_X8_findings (Nat.le_of_ble_eq_true rfl) (Nat.le_of_ble_eq_true rfl) (Nat.le_of_ble_eq_true rfl) hcs dL_law_1154 rfl (fun r X1 p1 => ?_)
  refine n_swap ?_
  refine n_aload_n C (pc := 1157) dL_law_1157 2 rfl rfl ?_
  refine n_arg C S (pc := 1158) (j := 1) (by decide) (by omega) hL dL_law_1158 dL_law_1159 dL_law_1160 dL_law_1161 dL_law_1162 ?_
  refine n_callVi C (pc := 1163) (wf := mw (h, I)) (mw_adr _) [.int (xs (6 * k + 1))] hM (me_0 (h, I) M) rfl ml_L_159 co_X9_findings im_X9_findings se_X9_findings in_X9 hy_X9_findings (Nat.le_of_ble_eq_true rfl) (Nat.le_of_ble_eq_true rfl) (Nat.le_of_ble_eq_true rfl) hcs dL_law_1163 rfl (fun r2 M1 p2 => ?_)
  refine n_swap ?_
  obtain ⟨e, hR1⟩ := hf r X1 r2 M1 p1 p2
  exact n_icmp_eq C (pc := 1166) (tgt := 1185) dL_law_1166 (by decide) (fun _ => fin X1 M1 hR1) (fun q => absurd e q)
theorem case_digest {K : Cx} {I : ClassId × ClassId × ClassId × ClassId × ClassId} {g h : Nat → Nat} {b L kc ns : Nat} {xs : Nat → Int32} {k : Nat} {X M : St} (C : NC K 4 cL_law RL room_1 (tyG (g, I))) (S : SC K b L xs) (hcs : kc ≤ room_1.cells ∧ ns ≤ room_1.slots) (hR : Rel k X M) (hk : k < 512) (hi : 6 * k + 6 ≤ L) (hL : L ≤ 3072) (fin : ∀ X1 M1 : St, Rel (k + 1) X1 M1 → WN K 4 kc ns (xw (g, I) X1 ++ mw (h, I) M1) 1185 [(0, .ref b), (1, .ref (g 0)), (2, .ref (h 0)), (3, .int (nI (6 * k)))] []) : WN K 4 kc ns (xw (g, I) X ++ mw (h, I) M) 1171 [(0, .ref b), (1, .ref (g 0)), (2, .ref (h 0)), (3, .int (nI (6 * k)))] [] := by
  obtain ⟨PX, PM, hX, hM, hf⟩ := law_digest hR (g, I) (h, I)
  refine n_aload_n C (pc := 1171) dL_law_1171 1 rfl rfl ?_
  refine n_callVl C (pc := 1172) (wf := xw (g, I)) (xw_adr _) [] hX (xe_0 (g, I) X) rfl ml_L_160 co_X8_digest im_X8_digest se_X8_digest in_X8 hy_X8_digest (Nat.le_of_ble_eq_true rfl) (Nat.le_of_ble_eq_true rfl) (Nat.le_of_ble_eq_true rfl) hcs dL_law_1172 rfl (fun r X1 p1 => ?_)
  refine n_swap ?_
  refine n_aload_n C (pc := 1175) dL_law_1175 2 rfl rfl ?_
  refine n_callVl C (pc := 1176) (wf := mw (h, I)) (mw_adr _) [] hM (me_0 (h, I) M) rfl ml_L_164 co_X9_digest im_X9_digest se_X9_digest in_X9 hy_X9_digest (Nat.le_of_ble_eq_true rfl) (Nat.le_of_ble_eq_true rfl) (Nat.le_of_ble_eq_true rfl) hcs dL_law_1176 rfl (fun r2 M1 p2 => ?_)
  refine n_swap ?_
  obtain ⟨e, hR1⟩ := hf r X1 r2 M1 p1 p2
  subst e
  refine n_lcmp C (pc := 1179) dL_law_1179 ?_
  exact n_if_eq C (pc := 1180) (tgt := 1185) dL_law_1180 (by decide) (fun _ => fin X1 M1 hR1) (fun q => absurd (lg_cmp_self r) q)
