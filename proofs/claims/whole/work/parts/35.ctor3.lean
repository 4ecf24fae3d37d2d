def k_Sched (ca : Nat → ClassId) (h0 q1 q3 : Nat) (ad1 ad2 : Nat → Nat → Nat) : va_W := ([(h0, .inr (4, [.ref q1, .ref q3, .int (-1), .int (-1), .int 0])), (q1, .inl (ca 2, 8, .inr (.inr (.inr (.inr (ed_pf ad1 8)))))), (q3, .inl (ca 3, 8, .inr (.inr (.inr (.inr (ed_pf ad2 8))))))] ++ ([] ++ ed_po (fun a => k_Thr ca (a 0) (a 1) (a 2) (a 3)) ad1 8) ++ ed_po (fun a => k_Row8 ca (a 0) (a 1)) ad2 8)
set_option maxHeartbeats 40000000 in
set_option maxRecDepth 100000 in
theorem C_Sched_init (l : Launch) (D : va_G) (ca : Nat → ClassId) (h0 : Nat) : ed_MC l y_Sched_init (Cond.code y_Sched_init prog_6_method_1_code 2 none :: ed_tb) rm_Sched_init D ca 50 264 [.ref h0] [(h0, .inr (4, [.null, .null, .int 0, .int 0, .int 0]))] (fun w => ∃ (q1 q3 : Nat) (ad1 ad2 : Nat → Nat → Nat), w = k_Sched ca h0 q1 q3 ad1 ad2) := by
  refine ed_metC (cc := prog_6_method_1_code) (own := "ExecutiveDesk$Scheduler") (nL := 2) (by decide) rfl rfl rfl (Nat.le_of_ble_eq_true rfl) ?_
  intro p e s m args below meth c A B hA ls hP hD hS hl
  have hx := B.1
  have hb := B.2.1
  have hK := B.2.2.2.2.2.1
  have hl : lv_has ls 2 [(0, .ref h0)] := hl
  refine lv_aload_n hx hb d_Sched_init_0 rfl (lv_at hl 0 rfl) ?_
  refine W.objInit hx hb B.2.2.2.1 (B.2.2.2.2.1 _ L_Sched_3) (B.2.2.2.2.1 _ ed_oi) (B.2.2.2.2.1 _ ed_oc) rfl (by rw [B.2.2.1]; exact hl.1) rfl d_Sched_init_1 (Nat.le_of_ble_eq_true rfl) (Nat.le_of_ble_eq_true rfl) ?_
  refine W.eq (g2 := F0 m 4 ls []) rfl ?_
  refine lv_aload_n hx hb d_Sched_init_4 rfl (lv_at hl 0 rfl) ?_
  refine lv_bipush (v := 8) hx hb d_Sched_init_5 (by decide) ?_
  refine va_newq hx hb B.2.2.2.1 (B.2.2.2.2.1 _ cl_Sched_9) B.2.2.2.2.2.2.2.1.2.2.1 hK hP hD hS hA (by decide) (N' := 8) (by decide) (by decide) (Nat.le_of_ble_eq_true rfl) (Nat.le_of_ble_eq_true rfl) d_Sched_init_7 (fun q1 cA2 H hKn hP hD hS => ?_)
  have hce := ed_caE 2 hKn rfl
  subst hce
  refine W.widen (k := 1) (n := 8) (by decide) (by decide) ?_
  refine va_putF (D := D) (ci := 4) (v := .ref q1) (ty := .array (.object "ExecutiveDesk$ThreadState")) (C := "ExecutiveDesk$Scheduler") (T := T_Sched) (N := 5) hx hb B.2.2.2.2.1 iw_Sched ty_Sched tyok_Sched nm_Sched B.2.2.2.1 hK hP hD hS 0 rfl rfl 0 (by decide) (B.2.2.2.2.1 _ L_Sched_11) (fun _ h9 => h9) rfl B.2.2.2.2.2.2.2.2.1 rfl (by decide +kernel) rfl rfl (Nat.le_of_ble_eq_true rfl) d_Sched_init_10 (fun H locs hP hD hS => ?_)
  have hP : va_P D vwCl ([(h0, .inr (4, [.ref q1, .null, .int 0, .int 0, .int 0]))] ++ [(q1, .inl (ca 2, 8, .inr (.inr (.inr (.inr (fun _ => none))))))]) H := hP
  have hD : va_D A ([(h0, .inr (4, [.ref q1, .null, .int 0, .int 0, .int 0]))] ++ [(q1, .inl (ca 2, 8, .inr (.inr (.inr (.inr (fun _ => none))))))]) := hD
  refine lv_aload_n hx hb d_Sched_init_13 rfl (lv_at hl 0 rfl) ?_
  refine lv_bipush (v := 8) hx hb d_Sched_init_14 (by decide) ?_
  refine va_newq hx hb B.2.2.2.1 (B.2.2.2.2.1 _ cl_Sched_17) B.2.2.2.2.2.2.2.1.2.2.2.1 hK hP hD hS hA (by decide) (N' := 8) (by decide) (by decide) (Nat.le_of_ble_eq_true rfl) (Nat.le_of_ble_eq_true rfl) d_Sched_init_16 (fun q3 cA4 H hKn hP hD hS => ?_)
  have hce := ed_caE 3 hKn rfl
  subst hce
  refine W.widen (k := 2) (n := 16) (by decide) (by decide) ?_
  refine va_putF (D := D) (ci := 4) (v := .ref q3) (ty := .array (.object "ExecutiveDesk$Row")) (C := "ExecutiveDesk$Scheduler") (T := T_Sched) (N := 5) hx hb B.2.2.2.2.1 iw_Sched ty_Sched tyok_Sched nm_Sched B.2.2.2.1 hK hP hD hS 0 rfl rfl 1 (by decide) (B.2.2.2.2.1 _ L_Sched_19) (fun _ h9 => h9) rfl B.2.2.2.2.2.2.2.2.1 rfl (by decide +kernel) rfl rfl (Nat.le_of_ble_eq_true rfl) d_Sched_init_19 (fun H locs hP hD hS => ?_)
  have hP : va_P D vwCl ([(h0, .inr (4, [.ref q1, .ref q3, .int 0, .int 0, .int 0]))] ++ [(q1, .inl (ca 2, 8, .inr (.inr (.inr (.inr (fun _ => none))))))] ++ [(q3, .inl (ca 3, 8, .inr (.inr (.inr (.inr (fun _ => none))))))]) H := hP
  have hD : va_D A ([(h0, .inr (4, [.ref q1, .ref q3, .int 0, .int 0, .int 0]))] ++ [(q1, .inl (ca 2, 8, .inr (.inr (.inr (.inr (fun _ => none))))))] ++ [(q3, .inl (ca 3, 8, .inr (.inr (.inr (.inr (fun _ => none))))))]) := hD
  refine lv_aload_n hx hb d_Sched_init_22 rfl (lv_at hl 0 rfl) ?_
  refine lv_iconst (v := (-1)) hx hb d_Sched_init_23 (by decide) ?_
  refine va_put (D := D) (ci := 4) (v := .int (-1)) (ty := .int) (C := "ExecutiveDesk$Scheduler") (T := T_Sched) (N := 5) hx hb B.2.2.2.2.1 iw_Sched ty_Sched tyok_Sched nm_Sched B.2.2.2.1 hK hP hD hS 0 rfl rfl 2 (by decide) (B.2.2.2.2.1 _ L_Sched_23) (fun _ h9 => h9) rfl (by decide +kernel) rfl rfl (Nat.le_of_ble_eq_true rfl) d_Sched_init_24 (fun H locs hP hD hS => ?_)
  have hP : va_P D vwCl ([(h0, .inr (4, [.ref q1, .ref q3, .int (-1), .int 0, .int 0]))] ++ [(q1, .inl (ca 2, 8, .inr (.inr (.inr (.inr (fun _ => none))))))] ++ [(q3, .inl (ca 3, 8, .inr (.inr (.inr (.inr (fun _ => none))))))]) H := hP
  have hD : va_D A ([(h0, .inr (4, [.ref q1, .ref q3, .int (-1), .int 0, .int 0]))] ++ [(q1, .inl (ca 2, 8, .inr (.inr (.inr (.inr (fun _ => none))))))] ++ [(q3, .inl (ca 3, 8, .inr (.inr (.inr (.inr (fun _ => none))))))]) := hD
  refine lv_aload_n hx hb d_Sched_init_27 rfl (lv_at hl 0 rfl) ?_
  refine lv_iconst (v := (-1)) hx hb d_Sched_init_28 (by decide) ?_
  refine va_put (D := D) (ci := 4) (v := .int (-1)) (ty := .int) (C := "ExecutiveDesk$Scheduler") (T := T_Sched) (N := 5) hx hb B.2.2.2.2.1 iw_Sched ty_Sched tyok_Sched nm_Sched B.2.2.2.1 hK hP hD hS 0 rfl rfl 3 (by decide) (B.2.2.2.2.1 _ L_Sched_27) (fun _ h9 => h9) rfl (by decide +kernel) rfl rfl (Nat.le_of_ble_eq_true rfl) d_Sched_init_29 (fun H locs hP hD hS => ?_)
  have hP : va_P D vwCl ([(h0, .inr (4, [.ref q1, .ref q3, .int (-1), .int (-1), .int 0]))] ++ [(q1, .inl (ca 2, 8, .inr (.inr (.inr (.inr (fun _ => none))))))] ++ [(q3, .inl (ca 3, 8, .inr (.inr (.inr (.inr (fun _ => none))))))]) H := hP
  have hD : va_D A ([(h0, .inr (4, [.ref q1, .ref q3, .int (-1), .int (-1), .int 0]))] ++ [(q1, .inl (ca 2, 8, .inr (.inr (.inr (.inr (fun _ => none))))))] ++ [(q3, .inl (ca 3, 8, .inr (.inr (.inr (.inr (fun _ => none))))))]) := hD
  refine lv_iconst (v := 0) hx hb d_Sched_init_32 (by decide) ?_
  refine lv_istore_n (lv' := [(1, .int 0), (0, .ref h0)]) hx hb d_Sched_init_33 rfl hl (by decide) rfl (fun ls hl => ?_)
  obtain ⟨hP, hD⟩ := ed_perm (w2 := ([(h0, .inr (4, [.ref q1, .ref q3, .int (-1), .int (-1), .int 0])), (q1, .inl (ca 2, 8, .inr (.inr (.inr (.inr (fun _ => none)))))), (q3, .inl (ca 3, 8, .inr (.inr (.inr (.inr (fun _ => none))))))] ++ [])) (List.Perm.refl _) hP hD
  have hP : va_P D vwCl (([(h0, .inr (4, [.ref q1, .ref q3, .int (-1), .int (-1), .int 0])), (q1, .inl (ca 2, 8, .inr (.inr (.inr (.inr (ed_pf (fun _ _ => 0) 0)))))), (q3, .inl (ca 3, 8, .inr (.inr (.inr (.inr (fun _ => none))))))] ++ []) ++ ed_po (fun a => k_Thr ca (a 0) (a 1) (a 2) (a 3)) (fun _ _ => 0) 0) H := by rw [ed_po_0, List.append_nil, ed_pf_0]; exact hP
  have hD : va_D A (([(h0, .inr (4, [.ref q1, .ref q3, .int (-1), .int (-1), .int 0])), (q1, .inl (ca 2, 8, .inr (.inr (.inr (.inr (ed_pf (fun _ _ => 0) 0)))))), (q3, .inl (ca 3, 8, .inr (.inr (.inr (.inr (fun _ => none))))))] ++ []) ++ ed_po (fun a => k_Thr ca (a 0) (a 1) (a 2) (a 3)) (fun _ _ => 0) 0) := by rw [ed_po_0, List.append_nil, ed_pf_0]; exact hD
  refine T_Sched_loopT B hA h0 q1 q3 [] (fun ad1 H locs ls hP hD hS hl => ?_) 8 0 (fun _ _ => 0) H locs ls rfl hP hD hS hl
  refine lv_iconst (v := 0) hx hb d_Sched_init_59 (by decide) ?_
  refine lv_istore_n (lv' := [(1, .int 0), (0, .ref h0)]) hx hb d_Sched_init_60 rfl hl (by decide) rfl (fun ls hl => ?_)
  rw [List.append_assoc] at hP hD
  have hP : va_P D vwCl (([(h0, .inr (4, [.ref q1, .ref q3, .int (-1), .int (-1), .int 0])), (q1, .inl (ca 2, 8, .inr (.inr (.inr (.inr (ed_pf ad1 8)))))), (q3, .inl (ca 3, 8, .inr (.inr (.inr (.inr (ed_pf (fun _ _ => 0) 0))))))] ++ ([] ++ ed_po (fun a => k_Thr ca (a 0) (a 1) (a 2) (a 3)) ad1 8)) ++ ed_po (fun a => k_Row8 ca (a 0) (a 1)) (fun _ _ => 0) 0) H := by rw [ed_po_0, List.append_nil, ed_pf_0]; exact hP
  have hD : va_D A (([(h0, .inr (4, [.ref q1, .ref q3, .int (-1), .int (-1), .int 0])), (q1, .inl (ca 2, 8, .inr (.inr (.inr (.inr (ed_pf ad1 8)))))), (q3, .inl (ca 3, 8, .inr (.inr (.inr (.inr (ed_pf (fun _ _ => 0) 0))))))] ++ ([] ++ ed_po (fun a => k_Thr ca (a 0) (a 1) (a 2) (a 3)) ad1 8)) ++ ed_po (fun a => k_Row8 ca (a 0) (a 1)) (fun _ _ => 0) 0) := by rw [ed_po_0, List.append_nil, ed_pf_0]; exact hD
  refine T_Sched_loopR B hA h0 q1 q3 ad1 ([] ++ ed_po (fun a => k_Thr ca (a 0) (a 1) (a 2) (a 3)) ad1 8) (fun ad2 H locs ls hP hD hS hl => ?_) 8 0 (fun _ _ => 0) H locs ls rfl hP hD hS hl
  exact ed_rC B hP hD hS ⟨q1, q3, ad1, ad2, rfl⟩ d_Sched_init_88
