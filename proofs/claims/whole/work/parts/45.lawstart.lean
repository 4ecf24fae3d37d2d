set_option maxHeartbeats 40000000 in
set_option maxRecDepth 100000 in
/-- THE LAW, from its entry, over a simulation: open until the simulation is proved -/
theorem whole_start_open {S : Nat → ed_S → ed_S → Prop} (hSim : ed_Sim S) {p : Program} {e : Env} {s : State} {m : MethodId} {below : List Frame} {meth : Method} {c : Code} (l : Launch) {b L : Nat} {xs : Nat → Int32} (hL : L ≤ 3072) (C0 : lw_At p s m meth c b L xs) : W p l e room_1 s m #[Value.ref b] below meth c s.heap [] 0 0 (lw_Z below #[Value.ref b] s) (entryFrame m ([Value.ref b] : List Value).toArray 4) := by
  obtain ⟨hx, hb, hr, hml, hown, hts, hX, hbl, hlocks, hgv⟩ := id C0
  have hA : ∀ q : Nat, s.heap.size ≤ q → (fun q : Nat => s.heap.size ≤ q) q := fun _ h => h
  have hbA : ¬ (fun q : Nat => s.heap.size ≤ q) b := Nat.not_le.mpr hbl
  have hts2 : ∀ w ∈ ed_tb, w.before #[Value.ref b] s = true := fun w h => hts w (List.mem_filter.mp h).1
  obtain ⟨c0, iS0, hKn0⟩ := u_known (C := "ExecutiveDesk$ObjectState") (T := T_Obj) (N := 10) (n := 10) hts2 iw_Obj (hts2 _ in_Obj)
  obtain ⟨c1, iS1, hKn1⟩ := u_known (C := "ExecutiveDesk$ProcessState") (T := T_Proc) (N := 5) (n := 5) hts2 iw_Proc (hts2 _ in_Proc)
  obtain ⟨c2, iS2, hKn2⟩ := u_known (C := "ExecutiveDesk$Row") (T := T_Row) (N := 2) (n := 2) hts2 iw_Row (hts2 _ in_Row)
  obtain ⟨c3, iS3, hKn3⟩ := u_known (C := "ExecutiveDesk$RuleList") (T := T_Rul) (N := 4) (n := 4) hts2 iw_Rul (hts2 _ in_Rul)
  obtain ⟨c4, iS4, hKn4⟩ := u_known (C := "ExecutiveDesk$Scheduler") (T := T_Sched) (N := 5) (n := 5) hts2 iw_Sched (hts2 _ in_Sched)
  obtain ⟨c5, iS5, hKn5⟩ := u_known (C := "ExecutiveDesk$ThreadState") (T := T_Thr) (N := 12) (n := 12) hts2 iw_Thr (hts2 _ in_Thr)
  obtain ⟨c6, iS6, hKn6⟩ := u_known (C := "ExecutiveDesk$TransferState") (T := T_Tra) (N := 8) (n := 8) hts2 iw_Tra (hts2 _ in_Tra)
  obtain ⟨c7, iS7, hKn7⟩ := u_known (C := "ExecutiveDesk") (T := T_Desk) (N := 12) (n := 12) hts2 iw_Desk (hts2 _ in_Desk)
  obtain ⟨c8, iS8, hKn8⟩ := u_known (C := "ExecutiveDeskModel") (T := T_Mod) (N := 53) (n := 53) hts2 iw_Mod (hts2 _ in_Mod)
  obtain ⟨dC, dI, hKc⟩ : ∃ (dC : Nat → ClassId) (dI : Nat → Nat → Nat), ∀ (k : Nat) (q : vw_C), vwCl[k]? = some q → u_Kn s q.1 q.2.1 q.2.2 (dC k) (dI k) := by
    refine ⟨fun k => if k = 0 then c0 else if k = 1 then c1 else if k = 2 then c2 else if k = 3 then c3 else if k = 4 then c4 else if k = 5 then c5 else if k = 6 then c6 else if k = 7 then c7 else c8, fun k => if k = 0 then iS0 else if k = 1 then iS1 else if k = 2 then iS2 else if k = 3 then iS3 else if k = 4 then iS4 else if k = 5 then iS5 else if k = 6 then iS6 else if k = 7 then iS7 else iS8, ?_⟩
    intro k q hq
    match k, hq with
    | 0, hq => cases hq; exact hKn0
    | 1, hq => cases hq; exact hKn1
    | 2, hq => cases hq; exact hKn2
    | 3, hq => cases hq; exact hKn3
    | 4, hq => cases hq; exact hKn4
    | 5, hq => cases hq; exact hKn5
    | 6, hq => cases hq; exact hKn6
    | 7, hq => cases hq; exact hKn7
    | 8, hq => cases hq; exact hKn8
    | k + 9, hq => simp [vwCl] at hq
  have ao1 : va_AO "ExecutiveDesk$ProcessState" s := va_AO.of (hts (.arrayOver (.object "ExecutiveDesk$ProcessState")) (List.mem_append_right _ (List.mem_of_getElem? (i := 20) (by decide +kernel))))
  obtain ⟨cm1, ca1, kA1, f11, -, f21, f31, f41⟩ := Cond.arrayOver_spec ao1
  have ao2 : va_AO "ExecutiveDesk$ThreadState" s := va_AO.of (hts (.arrayOver (.object "ExecutiveDesk$ThreadState")) (List.mem_append_right _ (List.mem_of_getElem? (i := 28) (by decide +kernel))))
  obtain ⟨cm2, ca2, kA2, f12, -, f22, f32, f42⟩ := Cond.arrayOver_spec ao2
  have ao3 : va_AO "ExecutiveDesk$Row" s := va_AO.of (hts (.arrayOver (.object "ExecutiveDesk$Row")) (List.mem_append_right _ (List.mem_of_getElem? (i := 30) (by decide +kernel))))
  obtain ⟨cm3, ca3, kA3, f13, -, f23, f33, f43⟩ := Cond.arrayOver_spec ao3
  have ao4 : va_AO "ExecutiveDesk$ObjectState" s := va_AO.of (hts (.arrayOver (.object "ExecutiveDesk$ObjectState")) (List.mem_append_right _ (List.mem_of_getElem? (i := 124) (by decide +kernel))))
  obtain ⟨cm4, ca4, kA4, f14, -, f24, f34, f44⟩ := Cond.arrayOver_spec ao4
  have ao5 : va_AO "ExecutiveDesk$TransferState" s := va_AO.of (hts (.arrayOver (.object "ExecutiveDesk$TransferState")) (List.mem_append_right _ (List.mem_of_getElem? (i := 126) (by decide +kernel))))
  obtain ⟨cm5, ca5, kA5, f15, -, f25, f35, f45⟩ := Cond.arrayOver_spec ao5
  obtain ⟨ca0, kA0, cm0, f10, f20, f30⟩ := Cond.arrayClass_spec (hts2 _ ed_a0)
  obtain ⟨ca6, kA6, cm6, f16, f26, f36⟩ := Cond.arrayClass_spec (hts2 _ ed_a6)
  obtain ⟨ca, hca⟩ : ∃ ca : Nat → ClassId, ca = (fun k => if k = 0 then ca0 else if k = 1 then ca1 else if k = 2 then ca2 else if k = 3 then ca3 else if k = 4 then ca4 else if k = 5 then ca5 else ca6) := ⟨_, rfl⟩
  have hK : va_K (dC, dI) vwCl (ed_ty ca) s := by
    subst hca
    refine ⟨hKc, fun k q h => ?_⟩
    match k, h with
    | 0, h => cases h; exact ⟨fun n z => ⟨fun k h => (by cases h), kA0, f20, cm0, f30⟩, f10⟩
    | 1, h => cases h; exact ⟨fun n z => ⟨fun k h => (by cases h), kA1, f21, cm1, f31⟩, kA1, cm1, f21, f31, f11, f41⟩
    | 2, h => cases h; exact ⟨fun n z => ⟨fun k h => (by cases h), kA2, f22, cm2, f32⟩, kA2, cm2, f22, f32, f12, f42⟩
    | 3, h => cases h; exact ⟨fun n z => ⟨fun k h => (by cases h), kA3, f23, cm3, f33⟩, kA3, cm3, f23, f33, f13, f43⟩
    | 4, h => cases h; exact ⟨fun n z => ⟨fun k h => (by cases h), kA4, f24, cm4, f34⟩, kA4, cm4, f24, f34, f14, f44⟩
    | 5, h => cases h; exact ⟨fun n z => ⟨fun k h => (by cases h), kA5, f25, cm5, f35⟩, kA5, cm5, f25, f35, f15, f45⟩
    | 6, h => cases h; exact ⟨fun n z => ⟨fun k h => (by cases h), kA6, f26, cm6, f36⟩, f16⟩
    | k + 7, h => simp [ed_ty] at h
  have n1 : va_Nw ed_n1 s := va_Nw.of rfl (hts ed_n1 (List.mem_append_right _ (List.mem_of_getElem? (i := 399) (by decide +kernel))))
  have n2 : va_Nw ed_n2 s := va_Nw.of rfl (hts ed_n2 (List.mem_append_right _ (List.mem_of_getElem? (i := 32) (by decide +kernel))))
  have n3 : va_Nw ed_n3 s := va_Nw.of rfl (hts ed_n3 (List.mem_append_right _ (List.mem_of_getElem? (i := 155) (by decide +kernel))))
  have n4 : va_Nw ed_n4 s := va_Nw.of rfl (hts ed_n4 (List.mem_append_right _ (List.mem_of_getElem? (i := 161) (by decide +kernel))))
  have n5 : va_Nw ed_n5 s := va_Nw.of rfl (hts ed_n5 (List.mem_append_right _ (List.mem_of_getElem? (i := 223) (by decide +kernel))))
  have hXX : ed_X s := ⟨⟨n2, n3, n4, n5⟩, ao1, ao2, ao3, ao4, ao5⟩
  have B : ed_B p s m #[Value.ref b] meth c code "ExecutiveDeskLaw" 4 (dC, dI) ca := ⟨hx, hb, hml, hown, hts2, hK, hlocks, n1⟩
  have hS : va_S (fun q : Nat => s.heap.size ≤ q) s.heap s.heap [] := va_S.rf
  have hP : va_P (dC, dI) vwCl [] s.heap := fun k q h => by simp at h
  have hD : va_D (fun q : Nat => s.heap.size ≤ q) [] := ⟨fun i j p q h => by simp at h, fun k q h => by simp at h⟩
  have hl := lv_entry ([.ref b]) (n := 4) (Nat.le_of_ble_eq_true rfl)
  rw [lg_entry_eq]
  generalize (lg_sl ([.ref b]) ++ List.replicate (4 - (lg_sl ([.ref b])).length) Slot.unset).toArray = ls at hl ⊢
  have hl : lv_has ls 4 [(0, .ref b)] := hl
  refine va_new (ci := 7) (fs := [.null, .null, .null, .null, .null, .null, .null, .int 0, .int 0, .int 0, .int 0, .int 0]) (C := "ExecutiveDesk") (T := T_Desk) (N := 12) hx hb hts2 iw_Desk ty_Desk tyok_Desk hown (hts2 _ cl_Law_7) (hts2 _ in_Desk) (hts2 _ ii_Desk) hK hP hD hS hA rfl (fun j hj => by clear hP hD hS hl; rcases (show j = 0 ∨ j = 1 ∨ j = 2 ∨ j = 3 ∨ j = 4 ∨ j = 5 ∨ j = 6 ∨ j = 7 ∨ j = 8 ∨ j = 9 ∨ j = 10 ∨ j = 11 by omega) with rfl | rfl | rfl | rfl | rfl | rfl | rfl | rfl | rfl | rfl | rfl | rfl <;> rfl) (Nat.le_of_ble_eq_true rfl) (Nat.le_of_ble_eq_true rfl) d_Law_law_0 (fun u0 H hP hD hS => ?_)
  refine W.widen (k := 1) (n := 12) (by decide) (by decide) ?_
  refine lv_dup hx hb d_Law_law_3 rfl ?_
  refine ed_ciG (y := y_Desk_init) (rm := rm_Desk_init) (ws := []) (wf := []) (As := []) (rest := [.ref u0]) hXX hK hP hD hS hA (fun hp => va_runI ⟨hx, hb, hml, hown, hts2⟩ (C_Desk_init l (dC, dI) ca u0 _) ⟨callB_of 0 hts2 (ed_good me_Desk_init.1) rfl rfl rfl (hts2 _ me_Desk_init.2.1) (hts2 _ L_Law_9) me_Desk_init.2.2 ⟨Nat.le_of_ble_eq_true rfl, Nat.le_of_ble_eq_true rfl⟩, rfl, hts2 _ im_Desk_init⟩ hp rfl rfl hl.1 rfl (lv_room (Nat.le_of_ble_eq_true rfl)) d_Law_law_4 ⟨Nat.le_of_ble_eq_true rfl, Nat.le_of_ble_eq_true rfl⟩) (fun w1 H locs hw hP hD hS => ?_)
  obtain ⟨q1, q3, q5, q6, q9, q11, q13, q15, q16, q18, ad7, ad8, ad11, ad12, ad13, rfl⟩ := hw
  refine W.widen (k := 191) (n := 1053) (by decide) (by decide) ?_
  rw [List.nil_append] at hP hD
  have hq := ed_perm (ed_k0 ca u0 q1 q3 q5 q6 q9 q11 q13 q15 q16 q18 ad7 ad8 ad11 ad12 ad13) hP hD
  clear hP hD
  obtain ⟨hP, hD⟩ := hq
  have hu : ed_ad0 u0 q1 q3 q5 q6 q9 q11 q13 q15 q16 q18 ad7 ad8 ad11 ad12 ad13 (pDesk 0) = u0 := rfl
  generalize ed_ad0 u0 q1 q3 q5 q6 q9 q11 q13 q15 q16 q18 ad7 ad8 ad11 ad12 ad13 = ad at hP hD hu
  refine lv_astore_n (lv' := [(1, .ref u0), (0, .ref b)]) hx hb d_Law_law_7 rfl hl (by decide) rfl (fun ls hl => ?_)
  refine va_new (ci := 8) (fs := [.null, .null, .null, .null, .null, .null, .null, .null, .null, .null, .null, .null, .null, .null, .null, .null, .null, .null, .null, .null, .null, .null, .null, .null, .null, .null, .null, .null, .null, .null, .null, .null, .null, .null, .null, .null, .null, .null, .null, .null, .null, .null, .int 0, .int 0, .int 0, .int 0, .int 0, .int 0, .int 0, .int 0, .int 0, .int 0, .int 0]) (C := "ExecutiveDeskModel") (T := T_Mod) (N := 53) hx hb hts2 iw_Mod ty_Mod tyok_Mod hown (hts2 _ cl_Law_10) (hts2 _ in_Mod) (hts2 _ ii_Mod) hK hP hD hS hA rfl (fun j hj => by clear hP hD hS hl; rcases (show j = 0 ∨ j = 1 ∨ j = 2 ∨ j = 3 ∨ j = 4 ∨ j = 5 ∨ j = 6 ∨ j = 7 ∨ j = 8 ∨ j = 9 ∨ j = 10 ∨ j = 11 ∨ j = 12 ∨ j = 13 ∨ j = 14 ∨ j = 15 ∨ j = 16 ∨ j = 17 ∨ j = 18 ∨ j = 19 ∨ j = 20 ∨ j = 21 ∨ j = 22 ∨ j = 23 ∨ j = 24 ∨ j = 25 ∨ j = 26 ∨ j = 27 ∨ j = 28 ∨ j = 29 ∨ j = 30 ∨ j = 31 ∨ j = 32 ∨ j = 33 ∨ j = 34 ∨ j = 35 ∨ j = 36 ∨ j = 37 ∨ j = 38 ∨ j = 39 ∨ j = 40 ∨ j = 41 ∨ j = 42 ∨ j = 43 ∨ j = 44 ∨ j = 45 ∨ j = 46 ∨ j = 47 ∨ j = 48 ∨ j = 49 ∨ j = 50 ∨ j = 51 ∨ j = 52 by omega) with rfl | rfl | rfl | rfl | rfl | rfl | rfl | rfl | rfl | rfl | rfl | rfl | rfl | rfl | rfl | rfl | rfl | rfl | rfl | rfl | rfl | rfl | rfl | rfl | rfl | rfl | rfl | rfl | rfl | rfl | rfl | rfl | rfl | rfl | rfl | rfl | rfl | rfl | rfl | rfl | rfl | rfl | rfl | rfl | rfl | rfl | rfl | rfl | rfl | rfl | rfl | rfl | rfl <;> rfl) (Nat.le_of_ble_eq_true rfl) (Nat.le_of_ble_eq_true rfl) d_Law_law_8 (fun u1 H hP hD hS => ?_)
  refine W.widen (k := 192) (n := 1106) (by decide) (by decide) ?_
  refine lv_dup hx hb d_Law_law_11 rfl ?_
  refine ed_ciG (y := y_Mod_init) (rm := rm_Mod_init) (ws := []) (wf := (ed_w ad ca ed_s0)) (As := []) (rest := [.ref u1]) hXX hK hP hD hS hA (fun hp => va_runI ⟨hx, hb, hml, hown, hts2⟩ (C_Mod_init l (dC, dI) ca u1 _) ⟨callB_of 0 hts2 (ed_good me_Mod_init.1) rfl rfl rfl (hts2 _ me_Mod_init.2.1) (hts2 _ L_Law_12) me_Mod_init.2.2 ⟨Nat.le_of_ble_eq_true rfl, Nat.le_of_ble_eq_true rfl⟩, rfl, hts2 _ im_Mod_init⟩ hp rfl rfl hl.1 rfl (lv_room (Nat.le_of_ble_eq_true rfl)) d_Law_law_12 ⟨Nat.le_of_ble_eq_true rfl, Nat.le_of_ble_eq_true rfl⟩) (fun w1 H locs hw hP hD hS => ?_)
  obtain ⟨z1, z2, z3, z4, z5, z6, z7, z8, z9, z10, z11, z12, z13, z14, z15, z16, z17, z18, z19, z20, z21, z22, z23, z24, z25, z26, z27, z28, z29, z30, z31, z32, z33, z34, z35, z36, z37, z38, z39, z40, z41, z42, rfl⟩ := hw
  refine W.widen (k := 234) (n := 1758) (by decide) (by decide) ?_
  rw [md_k0] at hP hD
  have hu2 : md_a0 u1 z1 z2 z3 z4 z5 z6 z7 z8 z9 z10 z11 z12 z13 z14 z15 z16 z17 z18 z19 z20 z21 z22 z23 z24 z25 z26 z27 z28 z29 z30 z31 z32 z33 z34 z35 z36 z37 z38 z39 z40 z41 z42 (pMod 0) = u1 := rfl
  generalize md_a0 u1 z1 z2 z3 z4 z5 z6 z7 z8 z9 z10 z11 z12 z13 z14 z15 z16 z17 z18 z19 z20 z21 z22 z23 z24 z25 z26 z27 z28 z29 z30 z31 z32 z33 z34 z35 z36 z37 z38 z39 z40 z41 z42 = ad2 at hP hD hu2
  refine lv_astore_n (lv' := [(2, .ref u1), (1, .ref u0), (0, .ref b)]) hx hb d_Law_law_15 rfl hl (by decide) rfl (fun ls hl => ?_)
  refine lv_iconst (v := 0) hx hb d_Law_law_16 (by decide) ?_
  refine lv_istore_n (lv' := [(3, .int 0), (2, .ref u1), (1, .ref u0), (0, .ref b)]) hx hb d_Law_law_17 rfl hl (by decide) rfl (fun ls hl => ?_)
  have hl := lv_sub (l' := [(0, .ref b), (1, .ref u0), (2, .ref u1), (3, .int 0)]) hl [3, 2, 1, 0] rfl
  rw [← hu, ← hu2] at hl
  exact law_loop_open hSim B hA hX hbl hbA hL hr (fun _ h => h) (L + 1) 0 ed_s0 md_s0 H _ ls (by omega) hSim.1 hP hD hS (by omega) hl
