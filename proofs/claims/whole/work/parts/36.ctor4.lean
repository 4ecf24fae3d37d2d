abbrev rm_Desk_init : Room := { frames := 4, cells := 190, slots := 1041, locals := 74 }
set_option maxHeartbeats 40000000 in
set_option maxRecDepth 100000 in
theorem T_Desk_loopP {p : Program} {l : Launch} {e : Env} {s : State} {m : MethodId} {args : Array Value} {below : List Frame} {meth : Method} {c : Code} {D : va_G} {ca : Nat → ClassId} {A : Nat → Prop} {Q : State → Prop} (B : ed_Bc p s m args meth c prog_1_method_1_code "ExecutiveDesk" 2 D ca) (hA : ∀ q : Nat, s.heap.size ≤ q → A q) (h0 q1 q11 q13 q16 q3 q5 q9 : Nat) (bl : va_W)
    (kk : ∀ (ad : Nat → Nat → Nat) (H : Heap) (locs : List Loc) (ls : Array Slot), va_P D vwCl (([(h0, .inr (7, [.ref q1, .ref q3, .ref q5, .ref q9, .ref q11, .ref q13, .ref q16, .int 0, .int 0, .int 0, .int 0, .int 0])), (q1, .inl (ca 1, 4, .inr (.inr (.inr (.inr (ed_pf ad 4)))))), (q9, .inl (ca 4, 16, .inr (.inr (.inr (.inr (fun _ => none)))))), (q11, .inl (ca 5, 8, .inr (.inr (.inr (.inr (fun _ => none))))))] ++ bl) ++ ed_po (fun a => k_Proc ca (a 0) (a 1) (a 2)) ad 4) H → va_D A (([(h0, .inr (7, [.ref q1, .ref q3, .ref q5, .ref q9, .ref q11, .ref q13, .ref q16, .int 0, .int 0, .int 0, .int 0, .int 0])), (q1, .inl (ca 1, 4, .inr (.inr (.inr (.inr (ed_pf ad 4)))))), (q9, .inl (ca 4, 16, .inr (.inr (.inr (.inr (fun _ => none)))))), (q11, .inl (ca 5, 8, .inr (.inr (.inr (.inr (fun _ => none))))))] ++ bl) ++ ed_po (fun a => k_Proc ca (a 0) (a 1) (a 2)) ad 4) → va_S A s.heap H locs → lv_has ls 2 [(0, .ref h0)] → W p l e rm_Desk_init s m args below meth c H locs 70 401 Q (F0 m 104 ls [])) :
    ∀ (n t : Nat) (ad : Nat → Nat → Nat) (H : Heap) (locs : List Loc) (ls : Array Slot), t + n = 4 → va_P D vwCl (([(h0, .inr (7, [.ref q1, .ref q3, .ref q5, .ref q9, .ref q11, .ref q13, .ref q16, .int 0, .int 0, .int 0, .int 0, .int 0])), (q1, .inl (ca 1, 4, .inr (.inr (.inr (.inr (ed_pf ad t)))))), (q9, .inl (ca 4, 16, .inr (.inr (.inr (.inr (fun _ => none)))))), (q11, .inl (ca 5, 8, .inr (.inr (.inr (.inr (fun _ => none))))))] ++ bl) ++ ed_po (fun a => k_Proc ca (a 0) (a 1) (a 2)) ad t) H → va_D A (([(h0, .inr (7, [.ref q1, .ref q3, .ref q5, .ref q9, .ref q11, .ref q13, .ref q16, .int 0, .int 0, .int 0, .int 0, .int 0])), (q1, .inl (ca 1, 4, .inr (.inr (.inr (.inr (ed_pf ad t)))))), (q9, .inl (ca 4, 16, .inr (.inr (.inr (.inr (fun _ => none)))))), (q11, .inl (ca 5, 8, .inr (.inr (.inr (.inr (fun _ => none))))))] ++ bl) ++ ed_po (fun a => k_Proc ca (a 0) (a 1) (a 2)) ad t) → va_S A s.heap H locs → lv_has ls 2 [(1, .int (nI t)), (0, .ref h0)] → W p l e rm_Desk_init s m args below meth c H locs (58 + 3 * t) (317 + 21 * t) Q (F0 m 80 ls []) := by
  have hx := B.1
  have hb := B.2.1
  have hK := B.2.2.2.2.2.1
  intro n
  induction n with
  | zero =>
    intro t ad H locs ls ht hP hD hS hl
    have ht : t = 4 := by omega
    subst ht
    refine lv_iload_n hx hb d_Desk_init_80 rfl (lv_at hl 0 rfl) ?_
    refine lv_iconst (v := 4) hx hb d_Desk_init_81 (by decide) ?_
    refine lv_icmp_ge (tgt := 104) hx hb d_Desk_init_82 (by decide) (fun c0 => ?_) (fun c0 => ?_)
    · exact kk ad H locs ls hP hD hS (lv_sub hl [1] rfl)
    · exact absurd (by decide) c0
  | succ n ih =>
    intro t ad H locs ls ht hP hD hS hl
    have htN : t < 4 := by omega
    refine lv_iload_n hx hb d_Desk_init_80 rfl (lv_at hl 0 rfl) ?_
    refine lv_iconst (v := 4) hx hb d_Desk_init_81 (by decide) ?_
    refine lv_icmp_ge (tgt := 104) hx hb d_Desk_init_82 (by decide) (fun c0 => ?_) (fun c0 => ?_)
    · exact absurd ((nI_leI (a := 4) (b := t) (by omega) (by omega)).mp c0) (by omega)
    · refine lv_aload_n hx hb d_Desk_init_85 rfl (lv_at hl 1 rfl) ?_
      refine va_get (D := D) (ci := 7) (v := .ref q1) (C := "ExecutiveDesk") (T := T_Desk) (N := 12) hx hb B.2.2.2.2.1 iw_Desk B.2.2.2.1 hK hP 0 rfl rfl 0 (by decide) (B.2.2.2.2.1 _ L_Desk_11) (fun _ h9 => h9) rfl d_Desk_init_86 ?_
      refine lv_iload_n hx hb d_Desk_init_89 rfl (lv_at hl 0 rfl) ?_
      refine va_new (ci := 1) (fs := [.null, .null, .int 0, .int 0, .int 0]) (C := "ExecutiveDesk$ProcessState") (T := T_Proc) (N := 5) hx hb B.2.2.2.2.1 iw_Proc ty_Proc tyok_Proc B.2.2.2.1 (B.2.2.2.2.1 _ cl_Desk_9) (B.2.2.2.2.1 _ in_Proc) (B.2.2.2.2.1 _ ii_Proc) hK hP hD hS hA rfl (fun j hj => by clear hP hD hS hl ih kk; rcases (show j = 0 ∨ j = 1 ∨ j = 2 ∨ j = 3 ∨ j = 4 by omega) with rfl | rfl | rfl | rfl | rfl <;> rfl) (show 58 + 3 * t + 1 ≤ (rm_Desk_init).cells by show _ ≤ 190; omega) (show 317 + 21 * t + 5 ≤ (rm_Desk_init).slots by show _ ≤ 1041; omega) d_Desk_init_90 (fun q H hP hD hS => ?_)
      refine lv_dup hx hb d_Desk_init_93 rfl ?_
      refine ed_ci (wf := (([(h0, .inr (7, [.ref q1, .ref q3, .ref q5, .ref q9, .ref q11, .ref q13, .ref q16, .int 0, .int 0, .int 0, .int 0, .int 0])), (q1, .inl (ca 1, 4, .inr (.inr (.inr (.inr (ed_pf ad t)))))), (q9, .inl (ca 4, 16, .inr (.inr (.inr (.inr (fun _ => none)))))), (q11, .inl (ca 5, 8, .inr (.inr (.inr (.inr (fun _ => none))))))] ++ bl) ++ ed_po (fun a => k_Proc ca (a 0) (a 1) (a 2)) ad t)) (As := []) (rest := [.ref q, .int (nI t), .ref q1]) B hP hD hS hA (C_Proc_init l D ca q) me_Proc_init rfl im_Proc_init L_Desk_51 ⟨rfl, rfl⟩ ⟨Nat.le_of_ble_eq_true rfl, Nat.le_of_ble_eq_true rfl⟩ rfl rfl hl.1 (lv_room (Nat.le_of_ble_eq_true rfl)) d_Desk_init_94 ⟨(show 58 + 3 * t + 1 + 2 ≤ (rm_Desk_init).cells by show _ ≤ 190; omega), (show 317 + 21 * t + 5 + 16 ≤ (rm_Desk_init).slots by show _ ≤ 1041; omega)⟩ (fun w1 H locs hw hP hD hS => ?_)
      obtain ⟨u0, u1, hw⟩ := hw
      subst hw
      have hcl : (nI t).toNatClampNeg = t := nI_clamp (by omega)
      refine va_astq hx hb hK hP hD hS 1 1 ((([(h0, .inr (7, [.ref q1, .ref q3, .ref q5, .ref q9, .ref q11, .ref q13, .ref q16, .int 0, .int 0, .int 0, .int 0, .int 0])), (q1, .inl (ca 1, 4, .inr (.inr (.inr (.inr (ed_pf ad t)))))), (q9, .inl (ca 4, 16, .inr (.inr (.inr (.inr (fun _ => none)))))), (q11, .inl (ca 5, 8, .inr (.inr (.inr (.inr (fun _ => none))))))] ++ bl) ++ ed_po (fun a => k_Proc ca (a 0) (a 1) (a 2)) ad t) : va_W).length 1 (r := ("ExecutiveDesk$ProcessState", T_Proc, 5)) rfl rfl (by rw [List.getElem?_append_right (Nat.le_refl _), Nat.sub_self]; rfl) rfl (i := nI t) (vp_in_nI htN (by omega)) d_Desk_init_97 (fun H locs hP hD hS => ?_)
      have hP : va_P D vwCl ((([(h0, .inr (7, [.ref q1, .ref q3, .ref q5, .ref q9, .ref q11, .ref q13, .ref q16, .int 0, .int 0, .int 0, .int 0, .int 0])), (q1, .inl (ca 1, 4, .inr (.inr (.inr (.inr (va_up (ed_pf ad t) (nI t).toNatClampNeg (some q))))))), (q9, .inl (ca 4, 16, .inr (.inr (.inr (.inr (fun _ => none)))))), (q11, .inl (ca 5, 8, .inr (.inr (.inr (.inr (fun _ => none))))))] ++ bl) ++ ed_po (fun a => k_Proc ca (a 0) (a 1) (a 2)) ad t) ++ (k_Proc ca q u0 u1)) H := hP
      have hD : va_D A ((([(h0, .inr (7, [.ref q1, .ref q3, .ref q5, .ref q9, .ref q11, .ref q13, .ref q16, .int 0, .int 0, .int 0, .int 0, .int 0])), (q1, .inl (ca 1, 4, .inr (.inr (.inr (.inr (va_up (ed_pf ad t) (nI t).toNatClampNeg (some q))))))), (q9, .inl (ca 4, 16, .inr (.inr (.inr (.inr (fun _ => none)))))), (q11, .inl (ca 5, 8, .inr (.inr (.inr (.inr (fun _ => none))))))] ++ bl) ++ ed_po (fun a => k_Proc ca (a 0) (a 1) (a 2)) ad t) ++ (k_Proc ca q u0 u1)) := hD
      have hpo : ed_po (fun a => k_Proc ca (a 0) (a 1) (a 2)) (va_up ad t (ed_a4 q u0 u1 0 0 0 0)) (t + 1) = ed_po (fun a => k_Proc ca (a 0) (a 1) (a 2)) ad t ++ (k_Proc ca q u0 u1) := ed_po_s (fun a => k_Proc ca (a 0) (a 1) (a 2)) ad t (ed_a4 q u0 u1 0 0 0 0)
      have hpf := ed_pf_s ad t (ed_a4 q u0 u1 0 0 0 0) q rfl
      rw [hcl, List.append_assoc, hpf, ← hpo] at hP hD
      refine lv_iinc (v := nI (t + 1)) (lv' := [(1, .int (nI (t + 1))), (0, .ref h0)]) hx hb d_Desk_init_98 hl (k := 0) rfl (nI_1 t) (by decide) rfl (fun ls hl => ?_)
      refine lv_goto (tgt := 80) hx hb d_Desk_init_101 (by decide) ?_
      refine W.widen (k := 58 + 3 * (t + 1)) (n := 317 + 21 * (t + 1)) (by omega) (by omega) ?_
      exact ih (t + 1) _ H locs ls (by omega) hP hD hS hl
set_option maxHeartbeats 40000000 in
set_option maxRecDepth 100000 in
theorem T_Desk_loopO {p : Program} {l : Launch} {e : Env} {s : State} {m : MethodId} {args : Array Value} {below : List Frame} {meth : Method} {c : Code} {D : va_G} {ca : Nat → ClassId} {A : Nat → Prop} {Q : State → Prop} (B : ed_Bc p s m args meth c prog_1_method_1_code "ExecutiveDesk" 2 D ca) (hA : ∀ q : Nat, s.heap.size ≤ q → A q) (h0 q1 q11 q13 q16 q3 q5 q9 : Nat) (ad11 : Nat → Nat → Nat) (bl : va_W)
    (kk : ∀ (ad : Nat → Nat → Nat) (H : Heap) (locs : List Loc) (ls : Array Slot), va_P D vwCl (([(h0, .inr (7, [.ref q1, .ref q3, .ref q5, .ref q9, .ref q11, .ref q13, .ref q16, .int 0, .int 0, .int 0, .int 0, .int 0])), (q1, .inl (ca 1, 4, .inr (.inr (.inr (.inr (ed_pf ad11 4)))))), (q9, .inl (ca 4, 16, .inr (.inr (.inr (.inr (ed_pf ad 16)))))), (q11, .inl (ca 5, 8, .inr (.inr (.inr (.inr (fun _ => none))))))] ++ bl) ++ ed_po (fun a => k_Obj ca (a 0) (a 1) (a 2) (a 3) (a 4) (a 5) (a 6)) ad 16) H → va_D A (([(h0, .inr (7, [.ref q1, .ref q3, .ref q5, .ref q9, .ref q11, .ref q13, .ref q16, .int 0, .int 0, .int 0, .int 0, .int 0])), (q1, .inl (ca 1, 4, .inr (.inr (.inr (.inr (ed_pf ad11 4)))))), (q9, .inl (ca 4, 16, .inr (.inr (.inr (.inr (ed_pf ad 16)))))), (q11, .inl (ca 5, 8, .inr (.inr (.inr (.inr (fun _ => none))))))] ++ bl) ++ ed_po (fun a => k_Obj ca (a 0) (a 1) (a 2) (a 3) (a 4) (a 5) (a 6)) ad 16) → va_S A s.heap H locs → lv_has ls 2 [(0, .ref h0)] → W p l e rm_Desk_init s m args below meth c H locs 182 977 Q (F0 m 131 ls [])) :
    ∀ (n t : Nat) (ad : Nat → Nat → Nat) (H : Heap) (locs : List Loc) (ls : Array Slot), t + n = 16 → va_P D vwCl (([(h0, .inr (7, [.ref q1, .ref q3, .ref q5, .ref q9, .ref q11, .ref q13, .ref q16, .int 0, .int 0, .int 0, .int 0, .int 0])), (q1, .inl (ca 1, 4, .inr (.inr (.inr (.inr (ed_pf ad11 4)))))), (q9, .inl (ca 4, 16, .inr (.inr (.inr (.inr (ed_pf ad t)))))), (q11, .inl (ca 5, 8, .inr (.inr (.inr (.inr (fun _ => none))))))] ++ bl) ++ ed_po (fun a => k_Obj ca (a 0) (a 1) (a 2) (a 3) (a 4) (a 5) (a 6)) ad t) H → va_D A (([(h0, .inr (7, [.ref q1, .ref q3, .ref q5, .ref q9, .ref q11, .ref q13, .ref q16, .int 0, .int 0, .int 0, .int 0, .int 0])), (q1, .inl (ca 1, 4, .inr (.inr (.inr (.inr (ed_pf ad11 4)))))), (q9, .inl (ca 4, 16, .inr (.inr (.inr (.inr (ed_pf ad t)))))), (q11, .inl (ca 5, 8, .inr (.inr (.inr (.inr (fun _ => none))))))] ++ bl) ++ ed_po (fun a => k_Obj ca (a 0) (a 1) (a 2) (a 3) (a 4) (a 5) (a 6)) ad t) → va_S A s.heap H locs → lv_has ls 2 [(1, .int (nI t)), (0, .ref h0)] → W p l e rm_Desk_init s m args below meth c H locs (70 + 7 * t) (401 + 36 * t) Q (F0 m 106 ls []) := by
  have hx := B.1
  have hb := B.2.1
  have hK := B.2.2.2.2.2.1
  intro n
  induction n with
  | zero =>
    intro t ad H locs ls ht hP hD hS hl
    have ht : t = 16 := by omega
    subst ht
    refine lv_iload_n hx hb d_Desk_init_106 rfl (lv_at hl 0 rfl) ?_
    refine lv_bipush (v := 16) hx hb d_Desk_init_107 (by decide) ?_
    refine lv_icmp_ge (tgt := 131) hx hb d_Desk_init_109 (by decide) (fun c0 => ?_) (fun c0 => ?_)
    · exact kk ad H locs ls hP hD hS (lv_sub hl [1] rfl)
    · exact absurd (by decide) c0
  | succ n ih =>
    intro t ad H locs ls ht hP hD hS hl
    have htN : t < 16 := by omega
    refine lv_iload_n hx hb d_Desk_init_106 rfl (lv_at hl 0 rfl) ?_
    refine lv_bipush (v := 16) hx hb d_Desk_init_107 (by decide) ?_
    refine lv_icmp_ge (tgt := 131) hx hb d_Desk_init_109 (by decide) (fun c0 => ?_) (fun c0 => ?_)
    · exact absurd ((nI_leI (a := 16) (b := t) (by omega) (by omega)).mp c0) (by omega)
    · refine lv_aload_n hx hb d_Desk_init_112 rfl (lv_at hl 1 rfl) ?_
      refine va_get (D := D) (ci := 7) (v := .ref q9) (C := "ExecutiveDesk") (T := T_Desk) (N := 12) hx hb B.2.2.2.2.1 iw_Desk B.2.2.2.1 hK hP 0 rfl rfl 3 (by decide) (B.2.2.2.2.1 _ L_Desk_29) (fun _ h9 => h9) rfl d_Desk_init_113 ?_
      refine lv_iload_n hx hb d_Desk_init_116 rfl (lv_at hl 0 rfl) ?_
      refine va_new (ci := 0) (fs := [.null, .null, .int 0, .int 0, .int 0, .int 0, .int 0, .int 0, .int 0, .int 0]) (C := "ExecutiveDesk$ObjectState") (T := T_Obj) (N := 10) hx hb B.2.2.2.2.1 iw_Obj ty_Obj tyok_Obj B.2.2.2.1 (B.2.2.2.2.1 _ cl_Desk_27) (B.2.2.2.2.1 _ in_Obj) (B.2.2.2.2.1 _ ii_Obj) hK hP hD hS hA rfl (fun j hj => by clear hP hD hS hl ih kk; rcases (show j = 0 ∨ j = 1 ∨ j = 2 ∨ j = 3 ∨ j = 4 ∨ j = 5 ∨ j = 6 ∨ j = 7 ∨ j = 8 ∨ j = 9 by omega) with rfl | rfl | rfl | rfl | rfl | rfl | rfl | rfl | rfl | rfl <;> rfl) (show 70 + 7 * t + 1 ≤ (rm_Desk_init).cells by show _ ≤ 190; omega) (show 401 + 36 * t + 10 ≤ (rm_Desk_init).slots by show _ ≤ 1041; omega) d_Desk_init_117 (fun q H hP hD hS => ?_)
      refine lv_dup hx hb d_Desk_init_120 rfl ?_
      refine ed_cin (host := "ExecutiveDesk") (wf := (([(h0, .inr (7, [.ref q1, .ref q3, .ref q5, .ref q9, .ref q11, .ref q13, .ref q16, .int 0, .int 0, .int 0, .int 0, .int 0])), (q1, .inl (ca 1, 4, .inr (.inr (.inr (.inr (ed_pf ad11 4)))))), (q9, .inl (ca 4, 16, .inr (.inr (.inr (.inr (ed_pf ad t)))))), (q11, .inl (ca 5, 8, .inr (.inr (.inr (.inr (fun _ => none))))))] ++ bl) ++ ed_po (fun a => k_Obj ca (a 0) (a 1) (a 2) (a 3) (a 4) (a 5) (a 6)) ad t)) (As := []) (rest := [.ref q, .int (nI t), .ref q9]) B hP hD hS hA (C_Obj_init l D ca q) me_Obj_init rfl im_Obj_init B.2.2.2.2.2.2.2.1.1.2.1 ⟨rfl, rfl⟩ ⟨Nat.le_of_ble_eq_true rfl, Nat.le_of_ble_eq_true rfl⟩ rfl rfl hl.1 (lv_room (Nat.le_of_ble_eq_true rfl)) d_Desk_init_121 ⟨(show 70 + 7 * t + 1 + 6 ≤ (rm_Desk_init).cells by show _ ≤ 190; omega), (show 401 + 36 * t + 10 + 26 ≤ (rm_Desk_init).slots by show _ ≤ 1041; omega)⟩ (fun w1 H locs hw hP hD hS => ?_)
      obtain ⟨u0, u1, u2, u3, u4, u5, hw⟩ := hw
      subst hw
      have hcl : (nI t).toNatClampNeg = t := nI_clamp (by omega)
      refine va_astq hx hb hK hP hD hS 2 4 ((([(h0, .inr (7, [.ref q1, .ref q3, .ref q5, .ref q9, .ref q11, .ref q13, .ref q16, .int 0, .int 0, .int 0, .int 0, .int 0])), (q1, .inl (ca 1, 4, .inr (.inr (.inr (.inr (ed_pf ad11 4)))))), (q9, .inl (ca 4, 16, .inr (.inr (.inr (.inr (ed_pf ad t)))))), (q11, .inl (ca 5, 8, .inr (.inr (.inr (.inr (fun _ => none))))))] ++ bl) ++ ed_po (fun a => k_Obj ca (a 0) (a 1) (a 2) (a 3) (a 4) (a 5) (a 6)) ad t) : va_W).length 0 (r := ("ExecutiveDesk$ObjectState", T_Obj, 10)) rfl rfl (by rw [List.getElem?_append_right (Nat.le_refl _), Nat.sub_self]; rfl) rfl (i := nI t) (vp_in_nI htN (by omega)) d_Desk_init_124 (fun H locs hP hD hS => ?_)
      have hP : va_P D vwCl ((([(h0, .inr (7, [.ref q1, .ref q3, .ref q5, .ref q9, .ref q11, .ref q13, .ref q16, .int 0, .int 0, .int 0, .int 0, .int 0])), (q1, .inl (ca 1, 4, .inr (.inr (.inr (.inr (ed_pf ad11 4)))))), (q9, .inl (ca 4, 16, .inr (.inr (.inr (.inr (va_up (ed_pf ad t) (nI t).toNatClampNeg (some q))))))), (q11, .inl (ca 5, 8, .inr (.inr (.inr (.inr (fun _ => none))))))] ++ bl) ++ ed_po (fun a => k_Obj ca (a 0) (a 1) (a 2) (a 3) (a 4) (a 5) (a 6)) ad t) ++ (k_Obj ca q u0 u1 u2 u3 u4 u5)) H := hP
      have hD : va_D A ((([(h0, .inr (7, [.ref q1, .ref q3, .ref q5, .ref q9, .ref q11, .ref q13, .ref q16, .int 0, .int 0, .int 0, .int 0, .int 0])), (q1, .inl (ca 1, 4, .inr (.inr (.inr (.inr (ed_pf ad11 4)))))), (q9, .inl (ca 4, 16, .inr (.inr (.inr (.inr (va_up (ed_pf ad t) (nI t).toNatClampNeg (some q))))))), (q11, .inl (ca 5, 8, .inr (.inr (.inr (.inr (fun _ => none))))))] ++ bl) ++ ed_po (fun a => k_Obj ca (a 0) (a 1) (a 2) (a 3) (a 4) (a 5) (a 6)) ad t) ++ (k_Obj ca q u0 u1 u2 u3 u4 u5)) := hD
      have hpo : ed_po (fun a => k_Obj ca (a 0) (a 1) (a 2) (a 3) (a 4) (a 5) (a 6)) (va_up ad t (ed_a4 q u0 u1 u2 u3 u4 u5)) (t + 1) = ed_po (fun a => k_Obj ca (a 0) (a 1) (a 2) (a 3) (a 4) (a 5) (a 6)) ad t ++ (k_Obj ca q u0 u1 u2 u3 u4 u5) := ed_po_s (fun a => k_Obj ca (a 0) (a 1) (a 2) (a 3) (a 4) (a 5) (a 6)) ad t (ed_a4 q u0 u1 u2 u3 u4 u5)
      have hpf := ed_pf_s ad t (ed_a4 q u0 u1 u2 u3 u4 u5) q rfl
      rw [hcl, List.append_assoc, hpf, ← hpo] at hP hD
      refine lv_iinc (v := nI (t + 1)) (lv' := [(1, .int (nI (t + 1))), (0, .ref h0)]) hx hb d_Desk_init_125 hl (k := 0) rfl (nI_1 t) (by decide) rfl (fun ls hl => ?_)
      refine lv_goto (tgt := 106) hx hb d_Desk_init_128 (by decide) ?_
      refine W.widen (k := 70 + 7 * (t + 1)) (n := 401 + 36 * (t + 1)) (by omega) (by omega) ?_
      exact ih (t + 1) _ H locs ls (by omega) hP hD hS hl
set_option maxHeartbeats 40000000 in
set_option maxRecDepth 100000 in
theorem T_Desk_loopX {p : Program} {l : Launch} {e : Env} {s : State} {m : MethodId} {args : Array Value} {below : List Frame} {meth : Method} {c : Code} {D : va_G} {ca : Nat → ClassId} {A : Nat → Prop} {Q : State → Prop} (B : ed_Bc p s m args meth c prog_1_method_1_code "ExecutiveDesk" 2 D ca) (hA : ∀ q : Nat, s.heap.size ≤ q → A q) (h0 q1 q11 q13 q16 q3 q5 q9 : Nat) (ad11 : Nat → Nat → Nat) (ad12 : Nat → Nat → Nat) (bl : va_W)
    (kk : ∀ (ad : Nat → Nat → Nat) (H : Heap) (locs : List Loc) (ls : Array Slot), va_P D vwCl (([(h0, .inr (7, [.ref q1, .ref q3, .ref q5, .ref q9, .ref q11, .ref q13, .ref q16, .int 0, .int 0, .int 0, .int 0, .int 0])), (q1, .inl (ca 1, 4, .inr (.inr (.inr (.inr (ed_pf ad11 4)))))), (q9, .inl (ca 4, 16, .inr (.inr (.inr (.inr (ed_pf ad12 16)))))), (q11, .inl (ca 5, 8, .inr (.inr (.inr (.inr (ed_pf ad 8))))))] ++ bl) ++ ed_po (fun a => k_Tra ca (a 0)) ad 8) H → va_D A (([(h0, .inr (7, [.ref q1, .ref q3, .ref q5, .ref q9, .ref q11, .ref q13, .ref q16, .int 0, .int 0, .int 0, .int 0, .int 0])), (q1, .inl (ca 1, 4, .inr (.inr (.inr (.inr (ed_pf ad11 4)))))), (q9, .inl (ca 4, 16, .inr (.inr (.inr (.inr (ed_pf ad12 16)))))), (q11, .inl (ca 5, 8, .inr (.inr (.inr (.inr (ed_pf ad 8))))))] ++ bl) ++ ed_po (fun a => k_Tra ca (a 0)) ad 8) → va_S A s.heap H locs → lv_has ls 2 [(0, .ref h0)] → W p l e rm_Desk_init s m args below meth c H locs 190 1041 Q (F0 m 158 ls [])) :
    ∀ (n t : Nat) (ad : Nat → Nat → Nat) (H : Heap) (locs : List Loc) (ls : Array Slot), t + n = 8 → va_P D vwCl (([(h0, .inr (7, [.ref q1, .ref q3, .ref q5, .ref q9, .ref q11, .ref q13, .ref q16, .int 0, .int 0, .int 0, .int 0, .int 0])), (q1, .inl (ca 1, 4, .inr (.inr (.inr (.inr (ed_pf ad11 4)))))), (q9, .inl (ca 4, 16, .inr (.inr (.inr (.inr (ed_pf ad12 16)))))), (q11, .inl (ca 5, 8, .inr (.inr (.inr (.inr (ed_pf ad t))))))] ++ bl) ++ ed_po (fun a => k_Tra ca (a 0)) ad t) H → va_D A (([(h0, .inr (7, [.ref q1, .ref q3, .ref q5, .ref q9, .ref q11, .ref q13, .ref q16, .int 0, .int 0, .int 0, .int 0, .int 0])), (q1, .inl (ca 1, 4, .inr (.inr (.inr (.inr (ed_pf ad11 4)))))), (q9, .inl (ca 4, 16, .inr (.inr (.inr (.inr (ed_pf ad12 16)))))), (q11, .inl (ca 5, 8, .inr (.inr (.inr (.inr (ed_pf ad t))))))] ++ bl) ++ ed_po (fun a => k_Tra ca (a 0)) ad t) → va_S A s.heap H locs → lv_has ls 2 [(1, .int (nI t)), (0, .ref h0)] → W p l e rm_Desk_init s m args below meth c H locs (182 + 1 * t) (977 + 8 * t) Q (F0 m 133 ls []) := by
  have hx := B.1
  have hb := B.2.1
  have hK := B.2.2.2.2.2.1
  intro n
  induction n with
  | zero =>
    intro t ad H locs ls ht hP hD hS hl
    have ht : t = 8 := by omega
    subst ht
    refine lv_iload_n hx hb d_Desk_init_133 rfl (lv_at hl 0 rfl) ?_
    refine lv_bipush (v := 8) hx hb d_Desk_init_134 (by decide) ?_
    refine lv_icmp_ge (tgt := 158) hx hb d_Desk_init_136 (by decide) (fun c0 => ?_) (fun c0 => ?_)
    · exact kk ad H locs ls hP hD hS (lv_sub hl [1] rfl)
    · exact absurd (by decide) c0
  | succ n ih =>
    intro t ad H locs ls ht hP hD hS hl
    have htN : t < 8 := by omega
    refine lv_iload_n hx hb d_Desk_init_133 rfl (lv_at hl 0 rfl) ?_
    refine lv_bipush (v := 8) hx hb d_Desk_init_134 (by decide) ?_
    refine lv_icmp_ge (tgt := 158) hx hb d_Desk_init_136 (by decide) (fun c0 => ?_) (fun c0 => ?_)
    · exact absurd ((nI_leI (a := 8) (b := t) (by omega) (by omega)).mp c0) (by omega)
    · refine lv_aload_n hx hb d_Desk_init_139 rfl (lv_at hl 1 rfl) ?_
      refine va_get (D := D) (ci := 7) (v := .ref q11) (C := "ExecutiveDesk") (T := T_Desk) (N := 12) hx hb B.2.2.2.2.1 iw_Desk B.2.2.2.1 hK hP 0 rfl rfl 4 (by decide) (B.2.2.2.2.1 _ L_Desk_35) (fun _ h9 => h9) rfl d_Desk_init_140 ?_
      refine lv_iload_n hx hb d_Desk_init_143 rfl (lv_at hl 0 rfl) ?_
      refine va_new (ci := 6) (fs := [.int 0, .int 0, .int 0, .int 0, .int 0, .int 0, .int 0, .int 0]) (C := "ExecutiveDesk$TransferState") (T := T_Tra) (N := 8) hx hb B.2.2.2.2.1 iw_Tra ty_Tra tyok_Tra B.2.2.2.1 (B.2.2.2.2.1 _ cl_Desk_33) (B.2.2.2.2.1 _ in_Tra) (B.2.2.2.2.1 _ ii_Tra) hK hP hD hS hA rfl (fun j hj => by clear hP hD hS hl ih kk; rcases (show j = 0 ∨ j = 1 ∨ j = 2 ∨ j = 3 ∨ j = 4 ∨ j = 5 ∨ j = 6 ∨ j = 7 by omega) with rfl | rfl | rfl | rfl | rfl | rfl | rfl | rfl <;> rfl) (show 182 + 1 * t + 1 ≤ (rm_Desk_init).cells by show _ ≤ 190; omega) (show 977 + 8 * t + 8 ≤ (rm_Desk_init).slots by show _ ≤ 1041; omega) d_Desk_init_144 (fun q H hP hD hS => ?_)
      refine lv_dup hx hb d_Desk_init_147 rfl ?_
      refine ed_cin (host := "ExecutiveDesk") (wf := (([(h0, .inr (7, [.ref q1, .ref q3, .ref q5, .ref q9, .ref q11, .ref q13, .ref q16, .int 0, .int 0, .int 0, .int 0, .int 0])), (q1, .inl (ca 1, 4, .inr (.inr (.inr (.inr (ed_pf ad11 4)))))), (q9, .inl (ca 4, 16, .inr (.inr (.inr (.inr (ed_pf ad12 16)))))), (q11, .inl (ca 5, 8, .inr (.inr (.inr (.inr (ed_pf ad t))))))] ++ bl) ++ ed_po (fun a => k_Tra ca (a 0)) ad t)) (As := []) (rest := [.ref q, .int (nI t), .ref q11]) B hP hD hS hA (C_Tra_init l D ca q) me_Tra_init rfl im_Tra_init B.2.2.2.2.2.2.2.1.1.2.2.2 ⟨rfl, rfl⟩ ⟨Nat.le_of_ble_eq_true rfl, Nat.le_of_ble_eq_true rfl⟩ rfl rfl hl.1 (lv_room (Nat.le_of_ble_eq_true rfl)) d_Desk_init_148 ⟨(show 182 + 1 * t + 1 + 0 ≤ (rm_Desk_init).cells by show _ ≤ 190; omega), (show 977 + 8 * t + 8 + 0 ≤ (rm_Desk_init).slots by show _ ≤ 1041; omega)⟩ (fun w1 H locs hw hP hD hS => ?_)
      subst hw
      have hcl : (nI t).toNatClampNeg = t := nI_clamp (by omega)
      refine va_astq hx hb hK hP hD hS 3 5 ((([(h0, .inr (7, [.ref q1, .ref q3, .ref q5, .ref q9, .ref q11, .ref q13, .ref q16, .int 0, .int 0, .int 0, .int 0, .int 0])), (q1, .inl (ca 1, 4, .inr (.inr (.inr (.inr (ed_pf ad11 4)))))), (q9, .inl (ca 4, 16, .inr (.inr (.inr (.inr (ed_pf ad12 16)))))), (q11, .inl (ca 5, 8, .inr (.inr (.inr (.inr (ed_pf ad t))))))] ++ bl) ++ ed_po (fun a => k_Tra ca (a 0)) ad t) : va_W).length 6 (r := ("ExecutiveDesk$TransferState", T_Tra, 8)) rfl rfl (by rw [List.getElem?_append_right (Nat.le_refl _), Nat.sub_self]; rfl) rfl (i := nI t) (vp_in_nI htN (by omega)) d_Desk_init_151 (fun H locs hP hD hS => ?_)
      have hP : va_P D vwCl ((([(h0, .inr (7, [.ref q1, .ref q3, .ref q5, .ref q9, .ref q11, .ref q13, .ref q16, .int 0, .int 0, .int 0, .int 0, .int 0])), (q1, .inl (ca 1, 4, .inr (.inr (.inr (.inr (ed_pf ad11 4)))))), (q9, .inl (ca 4, 16, .inr (.inr (.inr (.inr (ed_pf ad12 16)))))), (q11, .inl (ca 5, 8, .inr (.inr (.inr (.inr (va_up (ed_pf ad t) (nI t).toNatClampNeg (some q)))))))] ++ bl) ++ ed_po (fun a => k_Tra ca (a 0)) ad t) ++ (k_Tra ca q )) H := hP
      have hD : va_D A ((([(h0, .inr (7, [.ref q1, .ref q3, .ref q5, .ref q9, .ref q11, .ref q13, .ref q16, .int 0, .int 0, .int 0, .int 0, .int 0])), (q1, .inl (ca 1, 4, .inr (.inr (.inr (.inr (ed_pf ad11 4)))))), (q9, .inl (ca 4, 16, .inr (.inr (.inr (.inr (ed_pf ad12 16)))))), (q11, .inl (ca 5, 8, .inr (.inr (.inr (.inr (va_up (ed_pf ad t) (nI t).toNatClampNeg (some q)))))))] ++ bl) ++ ed_po (fun a => k_Tra ca (a 0)) ad t) ++ (k_Tra ca q )) := hD
      have hpo : ed_po (fun a => k_Tra ca (a 0)) (va_up ad t (ed_a4 q 0 0 0 0 0 0)) (t + 1) = ed_po (fun a => k_Tra ca (a 0)) ad t ++ (k_Tra ca q ) := ed_po_s (fun a => k_Tra ca (a 0)) ad t (ed_a4 q 0 0 0 0 0 0)
      have hpf := ed_pf_s ad t (ed_a4 q 0 0 0 0 0 0) q rfl
      rw [hcl, List.append_assoc, hpf, ← hpo] at hP hD
      refine lv_iinc (v := nI (t + 1)) (lv' := [(1, .int (nI (t + 1))), (0, .ref h0)]) hx hb d_Desk_init_152 hl (k := 0) rfl (nI_1 t) (by decide) rfl (fun ls hl => ?_)
      refine lv_goto (tgt := 133) hx hb d_Desk_init_155 (by decide) ?_
      refine W.widen (k := 182 + 1 * (t + 1)) (n := 977 + 8 * (t + 1)) (by omega) (by omega) ?_
      exact ih (t + 1) _ H locs ls (by omega) hP hD hS hl
