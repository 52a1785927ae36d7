theorem Nx_of {s : State} {A : Array Value} (hts : ∀ w ∈ lw_tbl, w.before A s = true) : Nx s := by
  refine ⟨fun w hw => ?_, hts _ (lt_1 (List.mem_of_getElem? (i := 183) rfl)), hts _ (lt_1 (List.mem_of_getElem? (i := 107) rfl))⟩
  simp only [NXl, List.mem_cons, List.not_mem_nil, or_false] at hw
  rcases hw with rfl | rfl | rfl | rfl | rfl | rfl
  · exact va_Nw.of rfl (hts _ (lt_1 (List.mem_of_getElem? (i := 24) rfl)))
  · exact va_Nw.of rfl (hts _ (lt_1 (List.mem_of_getElem? (i := 40) rfl)))
  · exact va_Nw.of rfl (hts _ (lt_1 (List.mem_of_getElem? (i := 127) rfl)))
  · exact va_Nw.of rfl (hts _ (lt_1 (List.mem_of_getElem? (i := 178) rfl)))
  · exact va_Nw.of rfl (hts _ (lt_1 (List.mem_of_getElem? (i := 206) rfl)))
  · exact va_Nw.of rfl (hts _ (lt_2 (List.mem_of_getElem? (i := 37) rfl)))
theorem K_of {s : State} {A : Array Value} (hts : ∀ w ∈ lw_tbl, w.before A s = true) : ∃ (D : va_G) (I : ClassId × ClassId × ClassId × ClassId × ClassId), ∀ g : Nat → Nat, va_K D vwCl (tyG (g, I)) s := by
  have htA : ∀ w ∈ tA, w.before A s = true := fun w hw => hts w (tA_in hw)
  obtain ⟨c0, i0, k0⟩ := u_known (C := RX0) (T := TX0) (N := 4) (n := 4) htA inX0 (htA _ ib_X0)
  obtain ⟨c1, i1, k1⟩ := u_known (C := RX1) (T := TX1) (N := 5) (n := 5) htA inX1 (htA _ ib_X1)
  obtain ⟨c2, i2, k2⟩ := u_known (C := RX2) (T := TX2) (N := 2) (n := 2) htA inX2 (htA _ ib_X2)
  obtain ⟨c3, i3, k3⟩ := u_known (C := RX3) (T := TX3) (N := 13) (n := 13) htA inX3 (htA _ ib_X3)
  obtain ⟨c4, i4, k4⟩ := u_known (C := RX4) (T := TX4) (N := 3) (n := 3) htA inX4 (htA _ ib_X4)
  obtain ⟨c5, i5, k5⟩ := u_known (C := RX5) (T := TX5) (N := 4) (n := 4) htA inX5 (htA _ ib_X5)
  obtain ⟨c6, i6, k6⟩ := u_known (C := RX6) (T := TX6) (N := 12) (n := 12) htA inX6 (htA _ ib_X6)
  obtain ⟨c7, i7, k7⟩ := u_known (C := RX7) (T := TX7) (N := 11) (n := 11) htA inX7 (htA _ ib_X7)
  obtain ⟨c8, i8, k8⟩ := u_known (C := RX8) (T := TX8) (N := 8) (n := 8) htA inX8 (htA _ ib_X8)
  obtain ⟨c9, i9, k9⟩ := u_known (C := RX9) (T := TX9) (N := 52) (n := 52) htA inX9 (htA _ ib_X9)
  obtain ⟨aI, bI, dI, eI, fI, gI⟩ := Cond.arrayClass_spec (htA _ ac_Jvm_ClassFile_FieldType_int)
  obtain ⟨aZ, bZ, dZ, eZ, fZ, gZ⟩ := Cond.arrayClass_spec (htA _ ac_Jvm_ClassFile_FieldType_boolean)
  obtain ⟨aB, bB, dB, eB, fB, gB⟩ := Cond.arrayClass_spec (htA _ ac_Jvm_ClassFile_FieldType_byte)
  obtain ⟨dII, aII, bII, -, fII, gII, eII⟩ := Cond.arrayOver_specA (hts _ (lt_1 (List.mem_of_getElem? (i := 183) rfl)))
  obtain ⟨dBB, aBB, bBB, -, fBB, gBB, eBB⟩ := Cond.arrayOver_specA (hts _ (lt_1 (List.mem_of_getElem? (i := 107) rfl)))
  refine ⟨(fun k => match k with | 0 => c0 | 1 => c1 | 2 => c2 | 3 => c3 | 4 => c4 | 5 => c5 | 6 => c6 | 7 => c7 | 8 => c8 | _ => c9, fun k => match k with | 0 => i0 | 1 => i1 | 2 => i2 | 3 => i3 | 4 => i4 | 5 => i5 | 6 => i6 | 7 => i7 | 8 => i8 | _ => i9), (aI, aZ, aB, aII, aBB), fun g => ⟨fun k q hq => ?_, fun k q hq => ?_⟩⟩
  · match k, hq with
    | 0, hq => cases hq; exact k0
    | 1, hq => cases hq; exact k1
    | 2, hq => cases hq; exact k2
    | 3, hq => cases hq; exact k3
    | 4, hq => cases hq; exact k4
    | 5, hq => cases hq; exact k5
    | 6, hq => cases hq; exact k6
    | 7, hq => cases hq; exact k7
    | 8, hq => cases hq; exact k8
    | 9, hq => cases hq; exact k9
    | k + 10, hq => simp [vwCl] at hq
  · match k, hq with
    | 0, hq => cases hq; exact ⟨fun n z => ⟨fun k h => (by cases h), bI, fI, dI, gI⟩, eI⟩
    | 1, hq => cases hq; exact ⟨fun n z => ⟨fun k h => (by cases h), bZ, fZ, dZ, gZ⟩, eZ⟩
    | 2, hq => cases hq; exact ⟨fun n z => ⟨fun k h => (by cases h), bB, fB, dB, gB⟩, eB⟩
    | 3, hq => cases hq; exact ⟨fun n z => ⟨fun k h => (by cases h), bII, fII, dII, gII⟩, eII⟩
    | 4, hq => cases hq; exact ⟨fun n z => ⟨fun k h => (by cases h), bBB, fBB, dBB, gBB⟩, eBB⟩
    | k + 5, hq => simp [tyG] at hq
set_option maxRecDepth 100000 in
theorem whole_start {p : Program} {e : Env} {s : State} {m : MethodId} {below : List Frame} {meth : Method} {c : Code} (l : Launch) {b L : Nat} {xs : Nat → Int32} (hL : L ≤ 3072) (C0 : lw_At p s m meth c b L xs) : W p l e room_1 s m #[Value.ref b] below meth c s.heap [] 0 0 (lw_Z below #[Value.ref b] s) (entryFrame m ([Value.ref b] : List Value).toArray 4) := by
  obtain ⟨hx, hb, hr, hml, hown, hts, hX, hbl, hlocks, hgv⟩ := id C0
  obtain ⟨D, I, hK⟩ := K_of hts
  have hl := lv_entry ([.ref b]) (n := 4) (Nat.le_of_ble_eq_true rfl)
  rw [lg_entry_eq]
  obtain ⟨K, hKe⟩ : ∃ K : Cx, K = (p, l, e, room_1, s, m, #[Value.ref b], below, meth, c, lw_Z below #[Value.ref b] s, D, fun q : Nat => s.heap.size ≤ q) := ⟨_, rfl⟩
  have C : ∀ g : Nat → Nat, NC K 4 cL_law RL room_1 (tyG (g, I)) := fun g => by
    subst hKe
    exact ⟨hx, hb, hml, hown, fun w hw => hts w (tA_in hw), rfl, hK g, fun _ h => h, Nx_of hts⟩
  have S : SC K b L xs := by
    subst hKe
    exact ⟨hX, hbl, Nat.not_le.mpr hbl⟩
  have ret : ∀ (ws : va_W) (lv : List (Nat × Value)) (kc ns : Nat), kc ≤ 600000 → ns ≤ 7302250 → WN K 4 kc ns ws 1192 lv [.int 1] := fun ws lv kc ns h1 h2 => by
    subst hKe
    exact fun H locs ls hP hD hS hl => va_forget (fun q hq => hS.2.2 q hq) (W.widen h1 h2 (lw_ret hx hb hr hlocks dL_law_1192))
  have body : WN K 4 0 0 [] 0 [(0, .ref b)] [] := by
    have C1 := C (fun _ => 0)
    refine n_new C1 (pc := 0) (Cn := RX8) (T := TX8) (N := 8) (ci := 8) (fs := [.null, .null, .null, .null, .null, .null, .null, .null]) inX8 tyX8 tyX8_ok cl_L_7 ib_X8 in_X8 rfl (by decide) (Nat.le_of_ble_eq_true rfl) (Nat.le_of_ble_eq_true rfl) dL_law_0 (fun q => ?_)
    refine n_dup C1 (pc := 3) dL_law_3 rfl ?_
    refine n_callI C1 (pc := 4) (fun l D => c_X8_init l D (fun _ => 0, I) q) ml_L_9 co_X8_init im_X8_init in_X8 rfl (by decide +kernel) (Nat.le_of_ble_eq_true rfl) (Nat.le_of_ble_eq_true rfl) (Nat.le_of_ble_eq_true rfl) ⟨(Nat.le_of_ble_eq_true rfl), (Nat.le_of_ble_eq_true rfl)⟩ dL_law_4 (fun g eg => ?_)
    subst eg
    refine n_astore_n C1 (pc := 7) dL_law_7 [(0, .ref b), (1, .ref (g 0))] [1, 0] rfl (by decide) rfl ?_
    refine n_new C1 (pc := 8) (Cn := RX9) (T := TX9) (N := 52) (ci := 9) (fs := [.int 0, .null, .int 0, .null, .null, .null, .null, .null, .null, .null, .null, .null, .int 0, .null, .int 0, .null, .null, .int 0, .null, .int 0, .int 0, .int 0, .null, .null, .null, .null, .int 0, .int 0, .int 0, .null, .int 0, .null, .null, .int 0, .null, .null, .null, .int 0, .int 0, .int 0, .null, .null, .null, .null, .null, .null, .null, .null, .int 0, .int 0, .null, .int 0]) inX9 tyX9 tyX9_ok cl_L_10 ib_X9 in_X9 rfl (by decide) (Nat.le_of_ble_eq_true rfl) (Nat.le_of_ble_eq_true rfl) dL_law_8 (fun q => ?_)
    refine n_dup C1 (pc := 11) dL_law_11 rfl ?_
    refine n_callI C1 (pc := 12) (fun l D => c_X9_init l D (fun _ => 0, I) q) ml_L_12 co_X9_init im_X9_init in_X9 rfl (by decide +kernel) (Nat.le_of_ble_eq_true rfl) (Nat.le_of_ble_eq_true rfl) (Nat.le_of_ble_eq_true rfl) ⟨(Nat.le_of_ble_eq_true rfl), (Nat.le_of_ble_eq_true rfl)⟩ dL_law_12 (fun h eh => ?_)
    subst eh
    refine n_astore_n C1 (pc := 15) dL_law_15 [(0, .ref b), (1, .ref (g 0)), (2, .ref (h 0))] [1, 2, 0] rfl (by decide) rfl ?_
    refine n_iconst C1 (pc := 16) (v := nI (6 * 0)) dL_law_16 (by decide) ?_
    refine n_istore_n C1 (pc := 17) dL_law_17 [(0, .ref b), (1, .ref (g 0)), (2, .ref (h 0)), (3, .int (nI (6 * 0)))] [1, 2, 3, 0] rfl (by decide) rfl ?_
    exact law_loop (C g) S ⟨(Nat.le_of_ble_eq_true rfl), (Nat.le_of_ble_eq_true rfl)⟩ hL (fun X M lv => ret _ lv _ _ (Nat.le_of_ble_eq_true rfl) (Nat.le_of_ble_eq_true rfl)) (L + 1) 0 X0 M0 Rel_0 (Nat.zero_le _) (by omega)
  have hP : va_P D vwCl [] s.heap := fun k q h => by simp at h
  have hD : va_D (fun q : Nat => s.heap.size ≤ q) [] := ⟨fun i j p q h => by simp at h, fun k q h => by simp at h⟩
  subst hKe
  exact body s.heap [] _ hP hD va_S.rf hl
