
def ed_po (blk : (Nat → Nat) → va_W) (ad : Nat → Nat → Nat) (t : Nat) : va_W := (List.range t).flatMap (fun j => blk (ad j))
theorem ed_po_0 (blk : (Nat → Nat) → va_W) (ad : Nat → Nat → Nat) : ed_po blk ad 0 = [] := rfl
theorem ed_po_s (blk : (Nat → Nat) → va_W) (ad : Nat → Nat → Nat) (t : Nat) (f : Nat → Nat) : ed_po blk (va_up ad t f) (t + 1) = ed_po blk ad t ++ blk f := by
  unfold ed_po
  rw [List.range_succ, List.flatMap_append]
  congr 1
  · rw [List.flatMap_def, List.flatMap_def]
    congr 1
    apply List.map_congr_left
    intro j hj
    have := List.mem_range.mp hj
    rw [va_up_ne _ _ (by omega)]
  · simp [va_up_self]
def ed_pf (ad : Nat → Nat → Nat) (t : Nat) : Nat → Option Nat := fun j => if j < t then some (ad j 0) else none
theorem ed_pf_s (ad : Nat → Nat → Nat) (t : Nat) (f : Nat → Nat) (q : Nat) (hq : f 0 = q) : va_up (ed_pf ad t) t (some q) = ed_pf (va_up ad t f) (t + 1) := by
  funext j
  unfold ed_pf
  by_cases h : j = t
  · subst h
    rw [va_up_self, if_pos (by omega), va_up_self, hq]
  · rw [va_up_ne _ _ h, va_up_ne _ _ h]
    by_cases h2 : j < t
    · rw [if_pos h2, if_pos (by omega)]
    · rw [if_neg h2, if_neg (by omega)]
def ed_a4 (a b c d e f g : Nat) : Nat → Nat := fun k => match k with
  | 0 => a
  | 1 => b
  | 2 => c
  | 3 => d
  | 4 => e
  | 5 => f
  | _ => g
theorem ed_perm {D : va_G} {A : Nat → Prop} {w w2 : va_W} {H : Heap} (h : w.Perm w2) (hP : va_P D vwCl w H) (hD : va_D A w) : va_P D vwCl w2 H ∧ va_D A w2 := by
  have nd : (w.map (fun q => q.1)).Nodup := by
    refine List.pairwise_iff_getElem.mpr ?_
    intro i j hi hj hij hc
    have hi' : i < w.length := by simpa using hi
    have hj' : j < w.length := by simpa using hj
    have h1 : w[i]? = some (w[i]'hi') := List.getElem?_eq_getElem hi'
    have h2 : w[j]? = some (w[j]'hj') := List.getElem?_eq_getElem hj'
    have := hD.1 i j _ _ h1 h2 (by simpa using hc)
    omega
  have nd2 : (w2.map (fun q => q.1)).Nodup := (h.map _).nodup_iff.mp nd
  refine ⟨fun k q hk => ?_, fun i j x y hi hj hxy => ?_, fun k q hk => ?_⟩
  · obtain ⟨i, hi⟩ := List.getElem?_of_mem (h.mem_iff.mpr (List.mem_of_getElem? hk))
    exact hP i q hi
  · refine (List.getElem?_inj (l := w2.map (fun q => q.1)) (by simpa using (List.getElem?_eq_some_iff.mp hi).1) nd2).mp ?_
    rw [List.getElem?_map, List.getElem?_map, hi, hj]
    simp [hxy]
  · obtain ⟨i, hi⟩ := List.getElem?_of_mem (h.mem_iff.mpr (List.mem_of_getElem? hk))
    exact hD.2 i q hi
theorem ed_pf_0 (ad : Nat → Nat → Nat) : ed_pf ad 0 = (fun _ => none) := by
  funext j
  simp [ed_pf]
abbrev rm_Sched_init : Room := { frames := 3, cells := 50, slots := 264, locals := 53 }
set_option maxHeartbeats 40000000 in
set_option maxRecDepth 100000 in
theorem T_Sched_loopT {p : Program} {l : Launch} {e : Env} {s : State} {m : MethodId} {args : Array Value} {below : List Frame} {meth : Method} {c : Code} {D : va_G} {ca : Nat → ClassId} {A : Nat → Prop} {Q : State → Prop} (B : ed_Bc p s m args meth c prog_6_method_1_code "ExecutiveDesk$Scheduler" 2 D ca) (hA : ∀ q : Nat, s.heap.size ≤ q → A q) (h0 q1 q3 : Nat) (bl : va_W)
    (kk : ∀ (ad : Nat → Nat → Nat) (H : Heap) (locs : List Loc) (ls : Array Slot), va_P D vwCl (([(h0, .inr (4, [.ref q1, .ref q3, .int (-1), .int (-1), .int 0])), (q1, .inl (ca 2, 8, .inr (.inr (.inr (.inr (ed_pf ad 8)))))), (q3, .inl (ca 3, 8, .inr (.inr (.inr (.inr (fun _ => none))))))] ++ bl) ++ ed_po (fun a => k_Thr ca (a 0) (a 1) (a 2) (a 3)) ad 8) H → va_D A (([(h0, .inr (4, [.ref q1, .ref q3, .int (-1), .int (-1), .int 0])), (q1, .inl (ca 2, 8, .inr (.inr (.inr (.inr (ed_pf ad 8)))))), (q3, .inl (ca 3, 8, .inr (.inr (.inr (.inr (fun _ => none))))))] ++ bl) ++ ed_po (fun a => k_Thr ca (a 0) (a 1) (a 2) (a 3)) ad 8) → va_S A s.heap H locs → lv_has ls 2 [(0, .ref h0)] → W p l e rm_Sched_init s m args below meth c H locs 34 184 Q (F0 m 59 ls [])) :
    ∀ (n t : Nat) (ad : Nat → Nat → Nat) (H : Heap) (locs : List Loc) (ls : Array Slot), t + n = 8 → va_P D vwCl (([(h0, .inr (4, [.ref q1, .ref q3, .int (-1), .int (-1), .int 0])), (q1, .inl (ca 2, 8, .inr (.inr (.inr (.inr (ed_pf ad t)))))), (q3, .inl (ca 3, 8, .inr (.inr (.inr (.inr (fun _ => none))))))] ++ bl) ++ ed_po (fun a => k_Thr ca (a 0) (a 1) (a 2) (a 3)) ad t) H → va_D A (([(h0, .inr (4, [.ref q1, .ref q3, .int (-1), .int (-1), .int 0])), (q1, .inl (ca 2, 8, .inr (.inr (.inr (.inr (ed_pf ad t)))))), (q3, .inl (ca 3, 8, .inr (.inr (.inr (.inr (fun _ => none))))))] ++ bl) ++ ed_po (fun a => k_Thr ca (a 0) (a 1) (a 2) (a 3)) ad t) → va_S A s.heap H locs → lv_has ls 2 [(1, .int (nI t)), (0, .ref h0)] → W p l e rm_Sched_init s m args below meth c H locs (2 + 4 * t) (16 + 21 * t) Q (F0 m 34 ls []) := by
  have hx := B.1
  have hb := B.2.1
  have hK := B.2.2.2.2.2.1
  intro n
  induction n with
  | zero =>
    intro t ad H locs ls ht hP hD hS hl
    have ht : t = 8 := by omega
    subst ht
    refine lv_iload_n hx hb d_Sched_init_34 rfl (lv_at hl 0 rfl) ?_
    refine lv_bipush (v := 8) hx hb d_Sched_init_35 (by decide) ?_
    refine lv_icmp_ge (tgt := 59) hx hb d_Sched_init_37 (by decide) (fun c0 => ?_) (fun c0 => ?_)
    · exact kk ad H locs ls hP hD hS (lv_sub hl [1] rfl)
    · exact absurd (by decide) c0
  | succ n ih =>
    intro t ad H locs ls ht hP hD hS hl
    have htN : t < 8 := by omega
    refine lv_iload_n hx hb d_Sched_init_34 rfl (lv_at hl 0 rfl) ?_
    refine lv_bipush (v := 8) hx hb d_Sched_init_35 (by decide) ?_
    refine lv_icmp_ge (tgt := 59) hx hb d_Sched_init_37 (by decide) (fun c0 => ?_) (fun c0 => ?_)
    · exact absurd ((nI_leI (a := 8) (b := t) (by omega) (by omega)).mp c0) (by omega)
    · refine lv_aload_n hx hb d_Sched_init_40 rfl (lv_at hl 1 rfl) ?_
      refine va_get (D := D) (ci := 4) (v := .ref q1) (C := "ExecutiveDesk$Scheduler") (T := T_Sched) (N := 5) hx hb B.2.2.2.2.1 iw_Sched B.2.2.2.1 hK hP 0 rfl rfl 0 (by decide) (B.2.2.2.2.1 _ L_Sched_11) (fun _ h9 => h9) rfl d_Sched_init_41 ?_
      refine lv_iload_n hx hb d_Sched_init_44 rfl (lv_at hl 0 rfl) ?_
      refine va_new (ci := 5) (fs := [.null, .null, .int 0, .int 0, .int 0, .int 0, .int 0, .int 0, .int 0, .int 0, .int 0, .int 0]) (C := "ExecutiveDesk$ThreadState") (T := T_Thr) (N := 12) hx hb B.2.2.2.2.1 iw_Thr ty_Thr tyok_Thr B.2.2.2.1 (B.2.2.2.2.1 _ cl_Sched_9) (B.2.2.2.2.1 _ in_Thr) (B.2.2.2.2.1 _ ii_Thr) hK hP hD hS hA rfl (fun j hj => by clear hP hD hS hl ih kk; rcases (show j = 0 ∨ j = 1 ∨ j = 2 ∨ j = 3 ∨ j = 4 ∨ j = 5 ∨ j = 6 ∨ j = 7 ∨ j = 8 ∨ j = 9 ∨ j = 10 ∨ j = 11 by omega) with rfl | rfl | rfl | rfl | rfl | rfl | rfl | rfl | rfl | rfl | rfl | rfl <;> rfl) (show 2 + 4 * t + 1 ≤ (rm_Sched_init).cells by show _ ≤ 50; omega) (show 16 + 21 * t + 12 ≤ (rm_Sched_init).slots by show _ ≤ 264; omega) d_Sched_init_45 (fun q H hP hD hS => ?_)
      refine lv_dup hx hb d_Sched_init_48 rfl ?_
      refine ed_cin (host := "ExecutiveDesk") (wf := (([(h0, .inr (4, [.ref q1, .ref q3, .int (-1), .int (-1), .int 0])), (q1, .inl (ca 2, 8, .inr (.inr (.inr (.inr (ed_pf ad t)))))), (q3, .inl (ca 3, 8, .inr (.inr (.inr (.inr (fun _ => none))))))] ++ bl) ++ ed_po (fun a => k_Thr ca (a 0) (a 1) (a 2) (a 3)) ad t)) (As := []) (rest := [.ref q, .int (nI t), .ref q1]) B hP hD hS hA (C_Thr_init l D ca q) me_Thr_init rfl im_Thr_init B.2.2.2.2.2.2.2.1.1.1 ⟨rfl, rfl⟩ ⟨Nat.le_of_ble_eq_true rfl, Nat.le_of_ble_eq_true rfl⟩ rfl rfl hl.1 (lv_room (Nat.le_of_ble_eq_true rfl)) d_Sched_init_49 ⟨(show 2 + 4 * t + 1 + 3 ≤ (rm_Sched_init).cells by show _ ≤ 50; omega), (show 16 + 21 * t + 12 + 9 ≤ (rm_Sched_init).slots by show _ ≤ 264; omega)⟩ (fun w1 H locs hw hP hD hS => ?_)
      obtain ⟨u0, u1, u2, hw⟩ := hw
      subst hw
      have hcl : (nI t).toNatClampNeg = t := nI_clamp (by omega)
      refine va_astq hx hb hK hP hD hS 1 2 ((([(h0, .inr (4, [.ref q1, .ref q3, .int (-1), .int (-1), .int 0])), (q1, .inl (ca 2, 8, .inr (.inr (.inr (.inr (ed_pf ad t)))))), (q3, .inl (ca 3, 8, .inr (.inr (.inr (.inr (fun _ => none))))))] ++ bl) ++ ed_po (fun a => k_Thr ca (a 0) (a 1) (a 2) (a 3)) ad t) : va_W).length 5 (r := ("ExecutiveDesk$ThreadState", T_Thr, 12)) rfl rfl (by rw [List.getElem?_append_right (Nat.le_refl _), Nat.sub_self]; rfl) rfl (i := nI t) (vp_in_nI htN (by omega)) d_Sched_init_52 (fun H locs hP hD hS => ?_)
      have hP : va_P D vwCl ((([(h0, .inr (4, [.ref q1, .ref q3, .int (-1), .int (-1), .int 0])), (q1, .inl (ca 2, 8, .inr (.inr (.inr (.inr (va_up (ed_pf ad t) (nI t).toNatClampNeg (some q))))))), (q3, .inl (ca 3, 8, .inr (.inr (.inr (.inr (fun _ => none))))))] ++ bl) ++ ed_po (fun a => k_Thr ca (a 0) (a 1) (a 2) (a 3)) ad t) ++ (k_Thr ca q u0 u1 u2)) H := hP
      have hD : va_D A ((([(h0, .inr (4, [.ref q1, .ref q3, .int (-1), .int (-1), .int 0])), (q1, .inl (ca 2, 8, .inr (.inr (.inr (.inr (va_up (ed_pf ad t) (nI t).toNatClampNeg (some q))))))), (q3, .inl (ca 3, 8, .inr (.inr (.inr (.inr (fun _ => none))))))] ++ bl) ++ ed_po (fun a => k_Thr ca (a 0) (a 1) (a 2) (a 3)) ad t) ++ (k_Thr ca q u0 u1 u2)) := hD
      have hpo : ed_po (fun a => k_Thr ca (a 0) (a 1) (a 2) (a 3)) (va_up ad t (ed_a4 q u0 u1 u2 0 0 0)) (t + 1) = ed_po (fun a => k_Thr ca (a 0) (a 1) (a 2) (a 3)) ad t ++ (k_Thr ca q u0 u1 u2) := ed_po_s (fun a => k_Thr ca (a 0) (a 1) (a 2) (a 3)) ad t (ed_a4 q u0 u1 u2 0 0 0)
      have hpf := ed_pf_s ad t (ed_a4 q u0 u1 u2 0 0 0) q rfl
      rw [hcl, List.append_assoc, hpf, ← hpo] at hP hD
      refine lv_iinc (v := nI (t + 1)) (lv' := [(1, .int (nI (t + 1))), (0, .ref h0)]) hx hb d_Sched_init_53 hl (k := 0) rfl (nI_1 t) (by decide) rfl (fun ls hl => ?_)
      refine lv_goto (tgt := 34) hx hb d_Sched_init_56 (by decide) ?_
      refine W.widen (k := 2 + 4 * (t + 1)) (n := 16 + 21 * (t + 1)) (by omega) (by omega) ?_
      exact ih (t + 1) _ H locs ls (by omega) hP hD hS hl
set_option maxHeartbeats 40000000 in
set_option maxRecDepth 100000 in
theorem T_Sched_loopR {p : Program} {l : Launch} {e : Env} {s : State} {m : MethodId} {args : Array Value} {below : List Frame} {meth : Method} {c : Code} {D : va_G} {ca : Nat → ClassId} {A : Nat → Prop} {Q : State → Prop} (B : ed_Bc p s m args meth c prog_6_method_1_code "ExecutiveDesk$Scheduler" 2 D ca) (hA : ∀ q : Nat, s.heap.size ≤ q → A q) (h0 q1 q3 : Nat) (ad1 : Nat → Nat → Nat) (bl : va_W)
    (kk : ∀ (ad : Nat → Nat → Nat) (H : Heap) (locs : List Loc) (ls : Array Slot), va_P D vwCl (([(h0, .inr (4, [.ref q1, .ref q3, .int (-1), .int (-1), .int 0])), (q1, .inl (ca 2, 8, .inr (.inr (.inr (.inr (ed_pf ad1 8)))))), (q3, .inl (ca 3, 8, .inr (.inr (.inr (.inr (ed_pf ad 8))))))] ++ bl) ++ ed_po (fun a => k_Row8 ca (a 0) (a 1)) ad 8) H → va_D A (([(h0, .inr (4, [.ref q1, .ref q3, .int (-1), .int (-1), .int 0])), (q1, .inl (ca 2, 8, .inr (.inr (.inr (.inr (ed_pf ad1 8)))))), (q3, .inl (ca 3, 8, .inr (.inr (.inr (.inr (ed_pf ad 8))))))] ++ bl) ++ ed_po (fun a => k_Row8 ca (a 0) (a 1)) ad 8) → va_S A s.heap H locs → lv_has ls 2 [(0, .ref h0)] → W p l e rm_Sched_init s m args below meth c H locs 50 264 Q (F0 m 88 ls [])) :
    ∀ (n t : Nat) (ad : Nat → Nat → Nat) (H : Heap) (locs : List Loc) (ls : Array Slot), t + n = 8 → va_P D vwCl (([(h0, .inr (4, [.ref q1, .ref q3, .int (-1), .int (-1), .int 0])), (q1, .inl (ca 2, 8, .inr (.inr (.inr (.inr (ed_pf ad1 8)))))), (q3, .inl (ca 3, 8, .inr (.inr (.inr (.inr (ed_pf ad t))))))] ++ bl) ++ ed_po (fun a => k_Row8 ca (a 0) (a 1)) ad t) H → va_D A (([(h0, .inr (4, [.ref q1, .ref q3, .int (-1), .int (-1), .int 0])), (q1, .inl (ca 2, 8, .inr (.inr (.inr (.inr (ed_pf ad1 8)))))), (q3, .inl (ca 3, 8, .inr (.inr (.inr (.inr (ed_pf ad t))))))] ++ bl) ++ ed_po (fun a => k_Row8 ca (a 0) (a 1)) ad t) → va_S A s.heap H locs → lv_has ls 2 [(1, .int (nI t)), (0, .ref h0)] → W p l e rm_Sched_init s m args below meth c H locs (34 + 2 * t) (184 + 10 * t) Q (F0 m 61 ls []) := by
  have hx := B.1
  have hb := B.2.1
  have hK := B.2.2.2.2.2.1
  intro n
  induction n with
  | zero =>
    intro t ad H locs ls ht hP hD hS hl
    have ht : t = 8 := by omega
    subst ht
    refine lv_iload_n hx hb d_Sched_init_61 rfl (lv_at hl 0 rfl) ?_
    refine lv_bipush (v := 8) hx hb d_Sched_init_62 (by decide) ?_
    refine lv_icmp_ge (tgt := 88) hx hb d_Sched_init_64 (by decide) (fun c0 => ?_) (fun c0 => ?_)
    · exact kk ad H locs ls hP hD hS (lv_sub hl [1] rfl)
    · exact absurd (by decide) c0
  | succ n ih =>
    intro t ad H locs ls ht hP hD hS hl
    have htN : t < 8 := by omega
    refine lv_iload_n hx hb d_Sched_init_61 rfl (lv_at hl 0 rfl) ?_
    refine lv_bipush (v := 8) hx hb d_Sched_init_62 (by decide) ?_
    refine lv_icmp_ge (tgt := 88) hx hb d_Sched_init_64 (by decide) (fun c0 => ?_) (fun c0 => ?_)
    · exact absurd ((nI_leI (a := 8) (b := t) (by omega) (by omega)).mp c0) (by omega)
    · refine lv_aload_n hx hb d_Sched_init_67 rfl (lv_at hl 1 rfl) ?_
      refine va_get (D := D) (ci := 4) (v := .ref q3) (C := "ExecutiveDesk$Scheduler") (T := T_Sched) (N := 5) hx hb B.2.2.2.2.1 iw_Sched B.2.2.2.1 hK hP 0 rfl rfl 1 (by decide) (B.2.2.2.2.1 _ L_Sched_19) (fun _ h9 => h9) rfl d_Sched_init_68 ?_
      refine lv_iload_n hx hb d_Sched_init_71 rfl (lv_at hl 0 rfl) ?_
      refine va_new (ci := 2) (fs := [.null, .int 0]) (C := "ExecutiveDesk$Row") (T := T_Row) (N := 2) hx hb B.2.2.2.2.1 iw_Row ty_Row tyok_Row B.2.2.2.1 (B.2.2.2.2.1 _ cl_Sched_17) (B.2.2.2.2.1 _ in_Row) (B.2.2.2.2.1 _ ii_Row) hK hP hD hS hA rfl (fun j hj => by clear hP hD hS hl ih kk; rcases (show j = 0 ∨ j = 1 by omega) with rfl | rfl <;> rfl) (show 34 + 2 * t + 1 ≤ (rm_Sched_init).cells by show _ ≤ 50; omega) (show 184 + 10 * t + 2 ≤ (rm_Sched_init).slots by show _ ≤ 264; omega) d_Sched_init_72 (fun q H hP hD hS => ?_)
      refine lv_dup hx hb d_Sched_init_75 rfl ?_
      refine lv_bipush (v := 8) hx hb d_Sched_init_76 (by decide) ?_
      refine ed_ci (wf := (([(h0, .inr (4, [.ref q1, .ref q3, .int (-1), .int (-1), .int 0])), (q1, .inl (ca 2, 8, .inr (.inr (.inr (.inr (ed_pf ad1 8)))))), (q3, .inl (ca 3, 8, .inr (.inr (.inr (.inr (ed_pf ad t))))))] ++ bl) ++ ed_po (fun a => k_Row8 ca (a 0) (a 1)) ad t)) (As := [.int 8]) (rest := [.ref q, .int (nI t), .ref q3]) B hP hD hS hA (C_Row_init8 l D ca q) me_Row_init rfl im_Row_init L_Sched_31 ⟨rfl, rfl⟩ ⟨Nat.le_of_ble_eq_true rfl, Nat.le_of_ble_eq_true rfl⟩ rfl rfl hl.1 (lv_room (Nat.le_of_ble_eq_true rfl)) d_Sched_init_78 ⟨(show 34 + 2 * t + 1 + 1 ≤ (rm_Sched_init).cells by show _ ≤ 50; omega), (show 184 + 10 * t + 2 + 8 ≤ (rm_Sched_init).slots by show _ ≤ 264; omega)⟩ (fun w1 H locs hw hP hD hS => ?_)
      obtain ⟨u0, hw⟩ := hw
      subst hw
      have hcl : (nI t).toNatClampNeg = t := nI_clamp (by omega)
      refine va_astq hx hb hK hP hD hS 2 3 ((([(h0, .inr (4, [.ref q1, .ref q3, .int (-1), .int (-1), .int 0])), (q1, .inl (ca 2, 8, .inr (.inr (.inr (.inr (ed_pf ad1 8)))))), (q3, .inl (ca 3, 8, .inr (.inr (.inr (.inr (ed_pf ad t))))))] ++ bl) ++ ed_po (fun a => k_Row8 ca (a 0) (a 1)) ad t) : va_W).length 2 (r := ("ExecutiveDesk$Row", T_Row, 2)) rfl rfl (by rw [List.getElem?_append_right (Nat.le_refl _), Nat.sub_self]; rfl) rfl (i := nI t) (vp_in_nI htN (by omega)) d_Sched_init_81 (fun H locs hP hD hS => ?_)
      have hP : va_P D vwCl ((([(h0, .inr (4, [.ref q1, .ref q3, .int (-1), .int (-1), .int 0])), (q1, .inl (ca 2, 8, .inr (.inr (.inr (.inr (ed_pf ad1 8)))))), (q3, .inl (ca 3, 8, .inr (.inr (.inr (.inr (va_up (ed_pf ad t) (nI t).toNatClampNeg (some q)))))))] ++ bl) ++ ed_po (fun a => k_Row8 ca (a 0) (a 1)) ad t) ++ (k_Row8 ca q u0)) H := hP
      have hD : va_D A ((([(h0, .inr (4, [.ref q1, .ref q3, .int (-1), .int (-1), .int 0])), (q1, .inl (ca 2, 8, .inr (.inr (.inr (.inr (ed_pf ad1 8)))))), (q3, .inl (ca 3, 8, .inr (.inr (.inr (.inr (va_up (ed_pf ad t) (nI t).toNatClampNeg (some q)))))))] ++ bl) ++ ed_po (fun a => k_Row8 ca (a 0) (a 1)) ad t) ++ (k_Row8 ca q u0)) := hD
      have hpo : ed_po (fun a => k_Row8 ca (a 0) (a 1)) (va_up ad t (ed_a4 q u0 0 0 0 0 0)) (t + 1) = ed_po (fun a => k_Row8 ca (a 0) (a 1)) ad t ++ (k_Row8 ca q u0) := ed_po_s (fun a => k_Row8 ca (a 0) (a 1)) ad t (ed_a4 q u0 0 0 0 0 0)
      have hpf := ed_pf_s ad t (ed_a4 q u0 0 0 0 0 0) q rfl
      rw [hcl, List.append_assoc, hpf, ← hpo] at hP hD
      refine lv_iinc (v := nI (t + 1)) (lv' := [(1, .int (nI (t + 1))), (0, .ref h0)]) hx hb d_Sched_init_82 hl (k := 0) rfl (nI_1 t) (by decide) rfl (fun ls hl => ?_)
      refine lv_goto (tgt := 61) hx hb d_Sched_init_85 (by decide) ?_
      refine W.widen (k := 34 + 2 * (t + 1)) (n := 184 + 10 * (t + 1)) (by omega) (by omega) ?_
      exact ih (t + 1) _ H locs ls (by omega) hP hD hS hl
