def k_Row4 (ca : Nat → ClassId) (h0 q1 : Nat) : va_W := ([(h0, .inr (2, [.ref q1, .int 0]))] ++ [(q1, .inl (ca 0, 4, .inl (fun _ => 0)))])
abbrev rm_Row_init4 : Room := { frames := 1, cells := 1, slots := 4, locals := 12 }
set_option maxHeartbeats 40000000 in
set_option maxRecDepth 100000 in
theorem C_Row_init4 (l : Launch) (D : va_G) (ca : Nat → ClassId) (h0 : Nat) : ed_MC l y_Row_init (Cond.code y_Row_init prog_4_method_1_code 2 none :: ed_tb) rm_Row_init4 D ca 1 4 [.ref h0, .int 4] [(h0, .inr (2, [.null, .int 0]))] (fun w => ∃ q1 : Nat, w = k_Row4 ca h0 q1) := by
  refine ed_metC (cc := prog_4_method_1_code) (own := "ExecutiveDesk$Row") (nL := 2) (by decide) rfl rfl rfl (Nat.le_of_ble_eq_true rfl) ?_
  intro p e s m args below meth c A B hA ls hP hD hS hl
  have hx := B.1
  have hb := B.2.1
  have hK := B.2.2.2.2.2.1
  have hl : lv_has ls 2 [(0, .ref h0), (1, .int 4)] := hl
  refine lv_aload_n hx hb d_Row_init_0 rfl (lv_at hl 0 rfl) ?_
  refine W.objInit hx hb B.2.2.2.1 (B.2.2.2.2.1 _ L_Row_3) (B.2.2.2.2.1 _ ed_oi) (B.2.2.2.2.1 _ ed_oc) rfl (by rw [B.2.2.1]; exact hl.1) rfl d_Row_init_1 (Nat.le_of_ble_eq_true rfl) (Nat.le_of_ble_eq_true rfl) ?_
  refine W.eq (g2 := F0 m 4 ls []) rfl ?_
  refine lv_aload_n hx hb d_Row_init_4 rfl (lv_at hl 0 rfl) ?_
  refine lv_iload_n hx hb d_Row_init_5 rfl (lv_at hl 1 rfl) ?_
  refine va_newa (atype := .int) (ty := .int) (a0 := (4, .inl (fun _ => 0))) hx hb (B.2.2.2.2.1 _ ed_a0) rfl hK hP hD hS hA (fun _ => rfl) (by decide) (N' := 4) (by decide) (by decide) (Nat.le_of_ble_eq_true rfl) (Nat.le_of_ble_eq_true rfl) d_Row_init_6 (fun q1 cA2 H hKn hP hD hS => ?_)
  have hce := ed_caE 0 hKn rfl
  subst hce
  refine W.widen (k := 1) (n := 4) (by decide) (by decide) ?_
  refine va_putF (D := D) (ci := 2) (v := .ref q1) (ty := .array .int) (C := "ExecutiveDesk$Row") (T := T_Row) (N := 2) hx hb B.2.2.2.2.1 iw_Row ty_Row tyok_Row nm_Row B.2.2.2.1 hK hP hD hS 0 rfl rfl 0 (by decide) (B.2.2.2.2.1 _ L_Row_9) (fun _ h9 => h9) rfl B.2.2.2.2.2.2.2.2.1 rfl (by decide +kernel) rfl rfl (Nat.le_of_ble_eq_true rfl) d_Row_init_8 (fun H locs hP hD hS => ?_)
  have hP : va_P D vwCl ([(h0, .inr (2, [.ref q1, .int 0]))] ++ [(q1, .inl (ca 0, 4, .inl (fun _ => 0)))]) H := hP
  have hD : va_D A ([(h0, .inr (2, [.ref q1, .int 0]))] ++ [(q1, .inl (ca 0, 4, .inl (fun _ => 0)))]) := hD
  exact ed_rC B hP hD hS ⟨q1, rfl⟩ d_Row_init_11
def k_Row8 (ca : Nat → ClassId) (h0 q1 : Nat) : va_W := ([(h0, .inr (2, [.ref q1, .int 0]))] ++ [(q1, .inl (ca 0, 8, .inl (fun _ => 0)))])
abbrev rm_Row_init8 : Room := { frames := 1, cells := 1, slots := 8, locals := 12 }
set_option maxHeartbeats 40000000 in
set_option maxRecDepth 100000 in
theorem C_Row_init8 (l : Launch) (D : va_G) (ca : Nat → ClassId) (h0 : Nat) : ed_MC l y_Row_init (Cond.code y_Row_init prog_4_method_1_code 2 none :: ed_tb) rm_Row_init8 D ca 1 8 [.ref h0, .int 8] [(h0, .inr (2, [.null, .int 0]))] (fun w => ∃ q1 : Nat, w = k_Row8 ca h0 q1) := by
  refine ed_metC (cc := prog_4_method_1_code) (own := "ExecutiveDesk$Row") (nL := 2) (by decide) rfl rfl rfl (Nat.le_of_ble_eq_true rfl) ?_
  intro p e s m args below meth c A B hA ls hP hD hS hl
  have hx := B.1
  have hb := B.2.1
  have hK := B.2.2.2.2.2.1
  have hl : lv_has ls 2 [(0, .ref h0), (1, .int 8)] := hl
  refine lv_aload_n hx hb d_Row_init_0 rfl (lv_at hl 0 rfl) ?_
  refine W.objInit hx hb B.2.2.2.1 (B.2.2.2.2.1 _ L_Row_3) (B.2.2.2.2.1 _ ed_oi) (B.2.2.2.2.1 _ ed_oc) rfl (by rw [B.2.2.1]; exact hl.1) rfl d_Row_init_1 (Nat.le_of_ble_eq_true rfl) (Nat.le_of_ble_eq_true rfl) ?_
  refine W.eq (g2 := F0 m 4 ls []) rfl ?_
  refine lv_aload_n hx hb d_Row_init_4 rfl (lv_at hl 0 rfl) ?_
  refine lv_iload_n hx hb d_Row_init_5 rfl (lv_at hl 1 rfl) ?_
  refine va_newa (atype := .int) (ty := .int) (a0 := (8, .inl (fun _ => 0))) hx hb (B.2.2.2.2.1 _ ed_a0) rfl hK hP hD hS hA (fun _ => rfl) (by decide) (N' := 8) (by decide) (by decide) (Nat.le_of_ble_eq_true rfl) (Nat.le_of_ble_eq_true rfl) d_Row_init_6 (fun q1 cA2 H hKn hP hD hS => ?_)
  have hce := ed_caE 0 hKn rfl
  subst hce
  refine W.widen (k := 1) (n := 8) (by decide) (by decide) ?_
  refine va_putF (D := D) (ci := 2) (v := .ref q1) (ty := .array .int) (C := "ExecutiveDesk$Row") (T := T_Row) (N := 2) hx hb B.2.2.2.2.1 iw_Row ty_Row tyok_Row nm_Row B.2.2.2.1 hK hP hD hS 0 rfl rfl 0 (by decide) (B.2.2.2.2.1 _ L_Row_9) (fun _ h9 => h9) rfl B.2.2.2.2.2.2.2.2.1 rfl (by decide +kernel) rfl rfl (Nat.le_of_ble_eq_true rfl) d_Row_init_8 (fun H locs hP hD hS => ?_)
  have hP : va_P D vwCl ([(h0, .inr (2, [.ref q1, .int 0]))] ++ [(q1, .inl (ca 0, 8, .inl (fun _ => 0)))]) H := hP
  have hD : va_D A ([(h0, .inr (2, [.ref q1, .int 0]))] ++ [(q1, .inl (ca 0, 8, .inl (fun _ => 0)))]) := hD
  exact ed_rC B hP hD hS ⟨q1, rfl⟩ d_Row_init_11
def k_Rul (ca : Nat → ClassId) (h0 q1 q3 q5 : Nat) : va_W := ([(h0, .inr (3, [.ref q1, .ref q3, .ref q5, .int 0]))] ++ [(q1, .inl (ca 0, 4, .inl (fun _ => 0)))] ++ [(q3, .inl (ca 0, 4, .inl (fun _ => 0)))] ++ [(q5, .inl (ca 0, 4, .inl (fun _ => 0)))])
abbrev rm_Rul_init : Room := { frames := 1, cells := 3, slots := 12, locals := 12 }
set_option maxHeartbeats 40000000 in
set_option maxRecDepth 100000 in
theorem C_Rul_init (l : Launch) (D : va_G) (ca : Nat → ClassId) (h0 : Nat) : ed_MC l y_Rul_init (Cond.code y_Rul_init prog_5_method_1_code 1 none :: ed_tb) rm_Rul_init D ca 3 12 [.ref h0] [(h0, .inr (3, [.null, .null, .null, .int 0]))] (fun w => ∃ q1 q3 q5 : Nat, w = k_Rul ca h0 q1 q3 q5) := by
  refine ed_metC (cc := prog_5_method_1_code) (own := "ExecutiveDesk$RuleList") (nL := 1) (by decide) rfl rfl rfl (Nat.le_of_ble_eq_true rfl) ?_
  intro p e s m args below meth c A B hA ls hP hD hS hl
  have hx := B.1
  have hb := B.2.1
  have hK := B.2.2.2.2.2.1
  have hl : lv_has ls 1 [(0, .ref h0)] := hl
  refine lv_aload_n hx hb d_Rul_init_0 rfl (lv_at hl 0 rfl) ?_
  refine W.objInit hx hb B.2.2.2.1 (B.2.2.2.2.1 _ L_Rul_3) (B.2.2.2.2.1 _ ed_oi) (B.2.2.2.2.1 _ ed_oc) rfl (by rw [B.2.2.1]; exact hl.1) rfl d_Rul_init_1 (Nat.le_of_ble_eq_true rfl) (Nat.le_of_ble_eq_true rfl) ?_
  refine W.eq (g2 := F0 m 4 ls []) rfl ?_
  refine lv_aload_n hx hb d_Rul_init_4 rfl (lv_at hl 0 rfl) ?_
  refine lv_iconst (v := 4) hx hb d_Rul_init_5 (by decide) ?_
  refine va_newa (atype := .int) (ty := .int) (a0 := (4, .inl (fun _ => 0))) hx hb (B.2.2.2.2.1 _ ed_a0) rfl hK hP hD hS hA (fun _ => rfl) (by decide) (N' := 4) (by decide) (by decide) (Nat.le_of_ble_eq_true rfl) (Nat.le_of_ble_eq_true rfl) d_Rul_init_6 (fun q1 cA2 H hKn hP hD hS => ?_)
  have hce := ed_caE 0 hKn rfl
  subst hce
  refine W.widen (k := 1) (n := 4) (by decide) (by decide) ?_
  refine va_putF (D := D) (ci := 3) (v := .ref q1) (ty := .array .int) (C := "ExecutiveDesk$RuleList") (T := T_Rul) (N := 4) hx hb B.2.2.2.2.1 iw_Rul ty_Rul tyok_Rul nm_Rul B.2.2.2.1 hK hP hD hS 0 rfl rfl 0 (by decide) (B.2.2.2.2.1 _ L_Rul_9) (fun _ h9 => h9) rfl B.2.2.2.2.2.2.2.2.1 rfl (by decide +kernel) rfl rfl (Nat.le_of_ble_eq_true rfl) d_Rul_init_8 (fun H locs hP hD hS => ?_)
  have hP : va_P D vwCl ([(h0, .inr (3, [.ref q1, .null, .null, .int 0]))] ++ [(q1, .inl (ca 0, 4, .inl (fun _ => 0)))]) H := hP
  have hD : va_D A ([(h0, .inr (3, [.ref q1, .null, .null, .int 0]))] ++ [(q1, .inl (ca 0, 4, .inl (fun _ => 0)))]) := hD
  refine lv_aload_n hx hb d_Rul_init_11 rfl (lv_at hl 0 rfl) ?_
  refine lv_iconst (v := 4) hx hb d_Rul_init_12 (by decide) ?_
  refine va_newa (atype := .int) (ty := .int) (a0 := (4, .inl (fun _ => 0))) hx hb (B.2.2.2.2.1 _ ed_a0) rfl hK hP hD hS hA (fun _ => rfl) (by decide) (N' := 4) (by decide) (by decide) (Nat.le_of_ble_eq_true rfl) (Nat.le_of_ble_eq_true rfl) d_Rul_init_13 (fun q3 cA4 H hKn hP hD hS => ?_)
  have hce := ed_caE 0 hKn rfl
  subst hce
  refine W.widen (k := 2) (n := 8) (by decide) (by decide) ?_
  refine va_putF (D := D) (ci := 3) (v := .ref q3) (ty := .array .int) (C := "ExecutiveDesk$RuleList") (T := T_Rul) (N := 4) hx hb B.2.2.2.2.1 iw_Rul ty_Rul tyok_Rul nm_Rul B.2.2.2.1 hK hP hD hS 0 rfl rfl 1 (by decide) (B.2.2.2.2.1 _ L_Rul_15) (fun _ h9 => h9) rfl B.2.2.2.2.2.2.2.2.1 rfl (by decide +kernel) rfl rfl (Nat.le_of_ble_eq_true rfl) d_Rul_init_15 (fun H locs hP hD hS => ?_)
  have hP : va_P D vwCl ([(h0, .inr (3, [.ref q1, .ref q3, .null, .int 0]))] ++ [(q1, .inl (ca 0, 4, .inl (fun _ => 0)))] ++ [(q3, .inl (ca 0, 4, .inl (fun _ => 0)))]) H := hP
  have hD : va_D A ([(h0, .inr (3, [.ref q1, .ref q3, .null, .int 0]))] ++ [(q1, .inl (ca 0, 4, .inl (fun _ => 0)))] ++ [(q3, .inl (ca 0, 4, .inl (fun _ => 0)))]) := hD
  refine lv_aload_n hx hb d_Rul_init_18 rfl (lv_at hl 0 rfl) ?_
  refine lv_iconst (v := 4) hx hb d_Rul_init_19 (by decide) ?_
  refine va_newa (atype := .int) (ty := .int) (a0 := (4, .inl (fun _ => 0))) hx hb (B.2.2.2.2.1 _ ed_a0) rfl hK hP hD hS hA (fun _ => rfl) (by decide) (N' := 4) (by decide) (by decide) (Nat.le_of_ble_eq_true rfl) (Nat.le_of_ble_eq_true rfl) d_Rul_init_20 (fun q5 cA6 H hKn hP hD hS => ?_)
  have hce := ed_caE 0 hKn rfl
  subst hce
  refine W.widen (k := 3) (n := 12) (by decide) (by decide) ?_
  refine va_putF (D := D) (ci := 3) (v := .ref q5) (ty := .array .int) (C := "ExecutiveDesk$RuleList") (T := T_Rul) (N := 4) hx hb B.2.2.2.2.1 iw_Rul ty_Rul tyok_Rul nm_Rul B.2.2.2.1 hK hP hD hS 0 rfl rfl 2 (by decide) (B.2.2.2.2.1 _ L_Rul_18) (fun _ h9 => h9) rfl B.2.2.2.2.2.2.2.2.1 rfl (by decide +kernel) rfl rfl (Nat.le_of_ble_eq_true rfl) d_Rul_init_22 (fun H locs hP hD hS => ?_)
  have hP : va_P D vwCl ([(h0, .inr (3, [.ref q1, .ref q3, .ref q5, .int 0]))] ++ [(q1, .inl (ca 0, 4, .inl (fun _ => 0)))] ++ [(q3, .inl (ca 0, 4, .inl (fun _ => 0)))] ++ [(q5, .inl (ca 0, 4, .inl (fun _ => 0)))]) H := hP
  have hD : va_D A ([(h0, .inr (3, [.ref q1, .ref q3, .ref q5, .int 0]))] ++ [(q1, .inl (ca 0, 4, .inl (fun _ => 0)))] ++ [(q3, .inl (ca 0, 4, .inl (fun _ => 0)))] ++ [(q5, .inl (ca 0, 4, .inl (fun _ => 0)))]) := hD
  exact ed_rC B hP hD hS ⟨q1, q3, q5, rfl⟩ d_Rul_init_25
def k_Tra (_ca : Nat → ClassId) (h0 : Nat) : va_W := [(h0, .inr (6, [.int (-1), .int 0, .int 0, .int 0, .int 0, .int 0, .int 0, .int 0]))]
abbrev rm_Tra_init : Room := { frames := 1, cells := 0, slots := 0, locals := 12 }
set_option maxHeartbeats 40000000 in
set_option maxRecDepth 100000 in
theorem C_Tra_init (l : Launch) (D : va_G) (ca : Nat → ClassId) (h0 : Nat) : ed_MC l y_Tra_init (Cond.code y_Tra_init prog_8_method_1_code 1 none :: ed_tb) rm_Tra_init D ca 0 0 [.ref h0] [(h0, .inr (6, [.int 0, .int 0, .int 0, .int 0, .int 0, .int 0, .int 0, .int 0]))] (fun w => w = k_Tra ca h0) := by
  refine ed_metC (cc := prog_8_method_1_code) (own := "ExecutiveDesk$TransferState") (nL := 1) (by decide) rfl rfl rfl (Nat.le_of_ble_eq_true rfl) ?_
  intro p e s m args below meth c A B hA ls hP hD hS hl
  have hx := B.1
  have hb := B.2.1
  have hK := B.2.2.2.2.2.1
  have hl : lv_has ls 1 [(0, .ref h0)] := hl
  refine lv_aload_n hx hb d_Tra_init_0 rfl (lv_at hl 0 rfl) ?_
  refine W.objInit hx hb B.2.2.2.1 (B.2.2.2.2.1 _ L_Tra_3) (B.2.2.2.2.1 _ ed_oi) (B.2.2.2.2.1 _ ed_oc) rfl (by rw [B.2.2.1]; exact hl.1) rfl d_Tra_init_1 (Nat.le_of_ble_eq_true rfl) (Nat.le_of_ble_eq_true rfl) ?_
  refine W.eq (g2 := F0 m 4 ls []) rfl ?_
  refine lv_aload_n hx hb d_Tra_init_4 rfl (lv_at hl 0 rfl) ?_
  refine lv_iconst (v := (-1)) hx hb d_Tra_init_5 (by decide) ?_
  refine va_put (D := D) (ci := 6) (v := .int (-1)) (ty := .int) (C := "ExecutiveDesk$TransferState") (T := T_Tra) (N := 8) hx hb B.2.2.2.2.1 iw_Tra ty_Tra tyok_Tra nm_Tra B.2.2.2.1 hK hP hD hS 0 rfl rfl 0 (by decide) (B.2.2.2.2.1 _ L_Tra_9) (fun _ h9 => h9) rfl (by decide +kernel) rfl rfl (Nat.le_of_ble_eq_true rfl) d_Tra_init_6 (fun H locs hP hD hS => ?_)
  have hP : va_P D vwCl [(h0, .inr (6, [.int (-1), .int 0, .int 0, .int 0, .int 0, .int 0, .int 0, .int 0]))] H := hP
  have hD : va_D A [(h0, .inr (6, [.int (-1), .int 0, .int 0, .int 0, .int 0, .int 0, .int 0, .int 0]))] := hD
  exact ed_rC B hP hD hS rfl d_Tra_init_9
def k_Thr (ca : Nat → ClassId) (h0 q1 q3 q4 : Nat) : va_W := ([(h0, .inr (5, [.ref q1, .ref q4, .int 0, .int 0, .int 1, .int (-10), .int 0, .int 0, .int 0, .int 0, .int 0, .int (-1)]))] ++ (k_Row4 ca q1 q3) ++ [(q4, .inl (ca 0, 3, .inl (fun _ => 0)))])
abbrev rm_Thr_init : Room := { frames := 2, cells := 3, slots := 9, locals := 33 }
set_option maxHeartbeats 40000000 in
set_option maxRecDepth 100000 in
theorem C_Thr_init (l : Launch) (D : va_G) (ca : Nat → ClassId) (h0 : Nat) : ed_MC l y_Thr_init (Cond.code y_Thr_init prog_7_method_1_code 1 none :: ed_tb) rm_Thr_init D ca 3 9 [.ref h0] [(h0, .inr (5, [.null, .null, .int 0, .int 0, .int 0, .int 0, .int 0, .int 0, .int 0, .int 0, .int 0, .int 0]))] (fun w => ∃ q1 q3 q4 : Nat, w = k_Thr ca h0 q1 q3 q4) := by
  refine ed_metC (cc := prog_7_method_1_code) (own := "ExecutiveDesk$ThreadState") (nL := 1) (by decide) rfl rfl rfl (Nat.le_of_ble_eq_true rfl) ?_
  intro p e s m args below meth c A B hA ls hP hD hS hl
  have hx := B.1
  have hb := B.2.1
  have hK := B.2.2.2.2.2.1
  have hl : lv_has ls 1 [(0, .ref h0)] := hl
  refine lv_aload_n hx hb d_Thr_init_0 rfl (lv_at hl 0 rfl) ?_
  refine W.objInit hx hb B.2.2.2.1 (B.2.2.2.2.1 _ L_Thr_3) (B.2.2.2.2.1 _ ed_oi) (B.2.2.2.2.1 _ ed_oc) rfl (by rw [B.2.2.1]; exact hl.1) rfl d_Thr_init_1 (Nat.le_of_ble_eq_true rfl) (Nat.le_of_ble_eq_true rfl) ?_
  refine W.eq (g2 := F0 m 4 ls []) rfl ?_
  refine lv_aload_n hx hb d_Thr_init_4 rfl (lv_at hl 0 rfl) ?_
  refine va_new (ci := 2) (fs := [.null, .int 0]) (C := "ExecutiveDesk$Row") (T := T_Row) (N := 2) hx hb B.2.2.2.2.1 iw_Row ty_Row tyok_Row B.2.2.2.1 (B.2.2.2.2.1 _ cl_Thr_9) (B.2.2.2.2.1 _ in_Row) (B.2.2.2.2.1 _ ii_Row) hK hP hD hS hA rfl (fun j hj => by rcases (show j = 0 ∨ j = 1 by omega) with rfl | rfl <;> rfl) (Nat.le_of_ble_eq_true rfl) (Nat.le_of_ble_eq_true rfl) d_Thr_init_5 (fun q1 H hP hD hS => ?_)
  refine W.widen (k := 1) (n := 2) (by decide) (by decide) ?_
  refine lv_dup hx hb d_Thr_init_8 rfl ?_
  refine lv_iconst (v := 4) hx hb d_Thr_init_9 (by decide) ?_
  refine ed_ci (wf := [(h0, .inr (5, [.null, .null, .int 0, .int 0, .int 0, .int 0, .int 0, .int 0, .int 0, .int 0, .int 0, .int 0]))]) (As := [.int 4]) (rest := [.ref q1, .ref h0]) B hP hD hS hA (C_Row_init4 l D ca q1) me_Row_init rfl im_Row_init L_Thr_11 ⟨rfl, rfl⟩ ⟨Nat.le_of_ble_eq_true rfl, Nat.le_of_ble_eq_true rfl⟩ rfl rfl hl.1 (lv_room (Nat.le_of_ble_eq_true rfl)) d_Thr_init_10 ⟨Nat.le_of_ble_eq_true rfl, Nat.le_of_ble_eq_true rfl⟩ (fun w2 H locs hw hP hD hS => ?_)
  obtain ⟨q3, rfl⟩ := hw
  refine W.widen (k := 2) (n := 6) (by decide) (by decide) ?_
  refine va_putF (D := D) (ci := 5) (v := .ref q1) (ty := .object "ExecutiveDesk$Row") (C := "ExecutiveDesk$ThreadState") (T := T_Thr) (N := 12) hx hb B.2.2.2.2.1 iw_Thr ty_Thr tyok_Thr nm_Thr B.2.2.2.1 hK hP hD hS 0 rfl rfl 0 (by decide) (B.2.2.2.2.1 _ L_Thr_14) (fun _ h9 => h9) rfl B.2.2.2.2.2.2.2.2.1 rfl (by decide +kernel) rfl rfl (Nat.le_of_ble_eq_true rfl) d_Thr_init_13 (fun H locs hP hD hS => ?_)
  have hP : va_P D vwCl ([(h0, .inr (5, [.ref q1, .null, .int 0, .int 0, .int 0, .int 0, .int 0, .int 0, .int 0, .int 0, .int 0, .int 0]))] ++ (k_Row4 ca q1 q3)) H := hP
  have hD : va_D A ([(h0, .inr (5, [.ref q1, .null, .int 0, .int 0, .int 0, .int 0, .int 0, .int 0, .int 0, .int 0, .int 0, .int 0]))] ++ (k_Row4 ca q1 q3)) := hD
  refine lv_aload_n hx hb d_Thr_init_16 rfl (lv_at hl 0 rfl) ?_
  refine lv_iconst (v := 3) hx hb d_Thr_init_17 (by decide) ?_
  refine va_newa (atype := .int) (ty := .int) (a0 := (3, .inl (fun _ => 0))) hx hb (B.2.2.2.2.1 _ ed_a0) rfl hK hP hD hS hA (fun _ => rfl) (by decide) (N' := 3) (by decide) (by decide) (Nat.le_of_ble_eq_true rfl) (Nat.le_of_ble_eq_true rfl) d_Thr_init_18 (fun q4 cA5 H hKn hP hD hS => ?_)
  have hce := ed_caE 0 hKn rfl
  subst hce
  refine W.widen (k := 3) (n := 9) (by decide) (by decide) ?_
  refine va_putF (D := D) (ci := 5) (v := .ref q4) (ty := .array .int) (C := "ExecutiveDesk$ThreadState") (T := T_Thr) (N := 12) hx hb B.2.2.2.2.1 iw_Thr ty_Thr tyok_Thr nm_Thr B.2.2.2.1 hK hP hD hS 0 rfl rfl 1 (by decide) (B.2.2.2.2.1 _ L_Thr_20) (fun _ h9 => h9) rfl B.2.2.2.2.2.2.2.2.1 rfl (by decide +kernel) rfl rfl (Nat.le_of_ble_eq_true rfl) d_Thr_init_20 (fun H locs hP hD hS => ?_)
  have hP : va_P D vwCl ([(h0, .inr (5, [.ref q1, .ref q4, .int 0, .int 0, .int 0, .int 0, .int 0, .int 0, .int 0, .int 0, .int 0, .int 0]))] ++ (k_Row4 ca q1 q3) ++ [(q4, .inl (ca 0, 3, .inl (fun _ => 0)))]) H := hP
  have hD : va_D A ([(h0, .inr (5, [.ref q1, .ref q4, .int 0, .int 0, .int 0, .int 0, .int 0, .int 0, .int 0, .int 0, .int 0, .int 0]))] ++ (k_Row4 ca q1 q3) ++ [(q4, .inl (ca 0, 3, .inl (fun _ => 0)))]) := hD
  refine lv_aload_n hx hb d_Thr_init_23 rfl (lv_at hl 0 rfl) ?_
  refine lv_iconst (v := 1) hx hb d_Thr_init_24 (by decide) ?_
  refine va_put (D := D) (ci := 5) (v := .int 1) (ty := .int) (C := "ExecutiveDesk$ThreadState") (T := T_Thr) (N := 12) hx hb B.2.2.2.2.1 iw_Thr ty_Thr tyok_Thr nm_Thr B.2.2.2.1 hK hP hD hS 0 rfl rfl 4 (by decide) (B.2.2.2.2.1 _ L_Thr_24) (fun _ h9 => h9) rfl (by decide +kernel) rfl rfl (Nat.le_of_ble_eq_true rfl) d_Thr_init_25 (fun H locs hP hD hS => ?_)
  have hP : va_P D vwCl ([(h0, .inr (5, [.ref q1, .ref q4, .int 0, .int 0, .int 1, .int 0, .int 0, .int 0, .int 0, .int 0, .int 0, .int 0]))] ++ (k_Row4 ca q1 q3) ++ [(q4, .inl (ca 0, 3, .inl (fun _ => 0)))]) H := hP
  have hD : va_D A ([(h0, .inr (5, [.ref q1, .ref q4, .int 0, .int 0, .int 1, .int 0, .int 0, .int 0, .int 0, .int 0, .int 0, .int 0]))] ++ (k_Row4 ca q1 q3) ++ [(q4, .inl (ca 0, 3, .inl (fun _ => 0)))]) := hD
  refine lv_aload_n hx hb d_Thr_init_28 rfl (lv_at hl 0 rfl) ?_
  refine lv_bipush (v := (-10)) hx hb d_Thr_init_29 (by decide) ?_
  refine va_put (D := D) (ci := 5) (v := .int (-10)) (ty := .int) (C := "ExecutiveDesk$ThreadState") (T := T_Thr) (N := 12) hx hb B.2.2.2.2.1 iw_Thr ty_Thr tyok_Thr nm_Thr B.2.2.2.1 hK hP hD hS 0 rfl rfl 5 (by decide) (B.2.2.2.2.1 _ L_Thr_28) (fun _ h9 => h9) rfl (by decide +kernel) rfl rfl (Nat.le_of_ble_eq_true rfl) d_Thr_init_31 (fun H locs hP hD hS => ?_)
  have hP : va_P D vwCl ([(h0, .inr (5, [.ref q1, .ref q4, .int 0, .int 0, .int 1, .int (-10), .int 0, .int 0, .int 0, .int 0, .int 0, .int 0]))] ++ (k_Row4 ca q1 q3) ++ [(q4, .inl (ca 0, 3, .inl (fun _ => 0)))]) H := hP
  have hD : va_D A ([(h0, .inr (5, [.ref q1, .ref q4, .int 0, .int 0, .int 1, .int (-10), .int 0, .int 0, .int 0, .int 0, .int 0, .int 0]))] ++ (k_Row4 ca q1 q3) ++ [(q4, .inl (ca 0, 3, .inl (fun _ => 0)))]) := hD
  refine lv_aload_n hx hb d_Thr_init_34 rfl (lv_at hl 0 rfl) ?_
  refine lv_iconst (v := (-1)) hx hb d_Thr_init_35 (by decide) ?_
  refine va_put (D := D) (ci := 5) (v := .int (-1)) (ty := .int) (C := "ExecutiveDesk$ThreadState") (T := T_Thr) (N := 12) hx hb B.2.2.2.2.1 iw_Thr ty_Thr tyok_Thr nm_Thr B.2.2.2.1 hK hP hD hS 0 rfl rfl 11 (by decide) (B.2.2.2.2.1 _ L_Thr_31) (fun _ h9 => h9) rfl (by decide +kernel) rfl rfl (Nat.le_of_ble_eq_true rfl) d_Thr_init_36 (fun H locs hP hD hS => ?_)
  have hP : va_P D vwCl ([(h0, .inr (5, [.ref q1, .ref q4, .int 0, .int 0, .int 1, .int (-10), .int 0, .int 0, .int 0, .int 0, .int 0, .int (-1)]))] ++ (k_Row4 ca q1 q3) ++ [(q4, .inl (ca 0, 3, .inl (fun _ => 0)))]) H := hP
  have hD : va_D A ([(h0, .inr (5, [.ref q1, .ref q4, .int 0, .int 0, .int 1, .int (-10), .int 0, .int 0, .int 0, .int 0, .int 0, .int (-1)]))] ++ (k_Row4 ca q1 q3) ++ [(q4, .inl (ca 0, 3, .inl (fun _ => 0)))]) := hD
  exact ed_rC B hP hD hS ⟨q1, q3, q4, rfl⟩ d_Thr_init_39
def k_Obj (ca : Nat → ClassId) (h0 q1 q3 q4 q5 q6 q8 : Nat) : va_W := ([(h0, .inr (0, [.ref q1, .ref q6, .int 0, .int (-1), .int 0, .int 0, .int 0, .int (-1), .int 0, .int (-1)]))] ++ (k_Rul ca q1 q3 q4 q5) ++ (k_Row8 ca q6 q8))
abbrev rm_Obj_init : Room := { frames := 2, cells := 6, slots := 26, locals := 33 }
set_option maxHeartbeats 40000000 in
set_option maxRecDepth 100000 in
theorem C_Obj_init (l : Launch) (D : va_G) (ca : Nat → ClassId) (h0 : Nat) : ed_MC l y_Obj_init (Cond.code y_Obj_init prog_2_method_1_code 1 none :: ed_tb) rm_Obj_init D ca 6 26 [.ref h0] [(h0, .inr (0, [.null, .null, .int 0, .int 0, .int 0, .int 0, .int 0, .int 0, .int 0, .int 0]))] (fun w => ∃ q1 q3 q4 q5 q6 q8 : Nat, w = k_Obj ca h0 q1 q3 q4 q5 q6 q8) := by
  refine ed_metC (cc := prog_2_method_1_code) (own := "ExecutiveDesk$ObjectState") (nL := 1) (by decide) rfl rfl rfl (Nat.le_of_ble_eq_true rfl) ?_
  intro p e s m args below meth c A B hA ls hP hD hS hl
  have hx := B.1
  have hb := B.2.1
  have hK := B.2.2.2.2.2.1
  have hl : lv_has ls 1 [(0, .ref h0)] := hl
  refine lv_aload_n hx hb d_Obj_init_0 rfl (lv_at hl 0 rfl) ?_
  refine W.objInit hx hb B.2.2.2.1 (B.2.2.2.2.1 _ L_Obj_3) (B.2.2.2.2.1 _ ed_oi) (B.2.2.2.2.1 _ ed_oc) rfl (by rw [B.2.2.1]; exact hl.1) rfl d_Obj_init_1 (Nat.le_of_ble_eq_true rfl) (Nat.le_of_ble_eq_true rfl) ?_
  refine W.eq (g2 := F0 m 4 ls []) rfl ?_
  refine lv_aload_n hx hb d_Obj_init_4 rfl (lv_at hl 0 rfl) ?_
  refine va_new (ci := 3) (fs := [.null, .null, .null, .int 0]) (C := "ExecutiveDesk$RuleList") (T := T_Rul) (N := 4) hx hb B.2.2.2.2.1 iw_Rul ty_Rul tyok_Rul B.2.2.2.1 (B.2.2.2.2.1 _ cl_Obj_9) (B.2.2.2.2.1 _ in_Rul) (B.2.2.2.2.1 _ ii_Rul) hK hP hD hS hA rfl (fun j hj => by rcases (show j = 0 ∨ j = 1 ∨ j = 2 ∨ j = 3 by omega) with rfl | rfl | rfl | rfl <;> rfl) (Nat.le_of_ble_eq_true rfl) (Nat.le_of_ble_eq_true rfl) d_Obj_init_5 (fun q1 H hP hD hS => ?_)
  refine W.widen (k := 1) (n := 4) (by decide) (by decide) ?_
  refine lv_dup hx hb d_Obj_init_8 rfl ?_
  refine ed_cin (host := "ExecutiveDesk") (wf := [(h0, .inr (0, [.null, .null, .int 0, .int 0, .int 0, .int 0, .int 0, .int 0, .int 0, .int 0]))]) (As := []) (rest := [.ref q1, .ref h0]) B hP hD hS hA (C_Rul_init l D ca q1) me_Rul_init rfl im_Rul_init B.2.2.2.2.2.2.2.1.1.2.2.1 ⟨rfl, rfl⟩ ⟨Nat.le_of_ble_eq_true rfl, Nat.le_of_ble_eq_true rfl⟩ rfl rfl hl.1 (lv_room (Nat.le_of_ble_eq_true rfl)) d_Obj_init_9 ⟨Nat.le_of_ble_eq_true rfl, Nat.le_of_ble_eq_true rfl⟩ (fun w2 H locs hw hP hD hS => ?_)
  obtain ⟨q3, q4, q5, rfl⟩ := hw
  refine W.widen (k := 4) (n := 16) (by decide) (by decide) ?_
  refine va_putF (D := D) (ci := 0) (v := .ref q1) (ty := .object "ExecutiveDesk$RuleList") (C := "ExecutiveDesk$ObjectState") (T := T_Obj) (N := 10) hx hb B.2.2.2.2.1 iw_Obj ty_Obj tyok_Obj nm_Obj B.2.2.2.1 hK hP hD hS 0 rfl rfl 0 (by decide) (B.2.2.2.2.1 _ L_Obj_12) (fun _ h9 => h9) rfl B.2.2.2.2.2.2.2.2.1 rfl (by decide +kernel) rfl rfl (Nat.le_of_ble_eq_true rfl) d_Obj_init_12 (fun H locs hP hD hS => ?_)
  have hP : va_P D vwCl ([(h0, .inr (0, [.ref q1, .null, .int 0, .int 0, .int 0, .int 0, .int 0, .int 0, .int 0, .int 0]))] ++ (k_Rul ca q1 q3 q4 q5)) H := hP
  have hD : va_D A ([(h0, .inr (0, [.ref q1, .null, .int 0, .int 0, .int 0, .int 0, .int 0, .int 0, .int 0, .int 0]))] ++ (k_Rul ca q1 q3 q4 q5)) := hD
  refine lv_aload_n hx hb d_Obj_init_15 rfl (lv_at hl 0 rfl) ?_
  refine va_new (ci := 2) (fs := [.null, .int 0]) (C := "ExecutiveDesk$Row") (T := T_Row) (N := 2) hx hb B.2.2.2.2.1 iw_Row ty_Row tyok_Row B.2.2.2.1 (B.2.2.2.2.1 _ cl_Obj_18) (B.2.2.2.2.1 _ in_Row) (B.2.2.2.2.1 _ ii_Row) hK hP hD hS hA rfl (fun j hj => by rcases (show j = 0 ∨ j = 1 by omega) with rfl | rfl <;> rfl) (Nat.le_of_ble_eq_true rfl) (Nat.le_of_ble_eq_true rfl) d_Obj_init_16 (fun q6 H hP hD hS => ?_)
  refine W.widen (k := 5) (n := 18) (by decide) (by decide) ?_
  refine lv_dup hx hb d_Obj_init_19 rfl ?_
  refine lv_bipush (v := 8) hx hb d_Obj_init_20 (by decide) ?_
  refine ed_ci (wf := ([(h0, .inr (0, [.ref q1, .null, .int 0, .int 0, .int 0, .int 0, .int 0, .int 0, .int 0, .int 0]))] ++ (k_Rul ca q1 q3 q4 q5))) (As := [.int 8]) (rest := [.ref q6, .ref h0]) B hP hD hS hA (C_Row_init8 l D ca q6) me_Row_init rfl im_Row_init L_Obj_20 ⟨rfl, rfl⟩ ⟨Nat.le_of_ble_eq_true rfl, Nat.le_of_ble_eq_true rfl⟩ rfl rfl hl.1 (lv_room (Nat.le_of_ble_eq_true rfl)) d_Obj_init_22 ⟨Nat.le_of_ble_eq_true rfl, Nat.le_of_ble_eq_true rfl⟩ (fun w7 H locs hw hP hD hS => ?_)
  obtain ⟨q8, rfl⟩ := hw
  refine W.widen (k := 6) (n := 26) (by decide) (by decide) ?_
  refine va_putF (D := D) (ci := 0) (v := .ref q6) (ty := .object "ExecutiveDesk$Row") (C := "ExecutiveDesk$ObjectState") (T := T_Obj) (N := 10) hx hb B.2.2.2.2.1 iw_Obj ty_Obj tyok_Obj nm_Obj B.2.2.2.1 hK hP hD hS 0 rfl rfl 1 (by decide) (B.2.2.2.2.1 _ L_Obj_23) (fun _ h9 => h9) rfl B.2.2.2.2.2.2.2.2.1 rfl (by decide +kernel) rfl rfl (Nat.le_of_ble_eq_true rfl) d_Obj_init_25 (fun H locs hP hD hS => ?_)
  have hP : va_P D vwCl ([(h0, .inr (0, [.ref q1, .ref q6, .int 0, .int 0, .int 0, .int 0, .int 0, .int 0, .int 0, .int 0]))] ++ (k_Rul ca q1 q3 q4 q5) ++ (k_Row8 ca q6 q8)) H := hP
  have hD : va_D A ([(h0, .inr (0, [.ref q1, .ref q6, .int 0, .int 0, .int 0, .int 0, .int 0, .int 0, .int 0, .int 0]))] ++ (k_Rul ca q1 q3 q4 q5) ++ (k_Row8 ca q6 q8)) := hD
  refine lv_aload_n hx hb d_Obj_init_28 rfl (lv_at hl 0 rfl) ?_
  refine lv_iconst (v := (-1)) hx hb d_Obj_init_29 (by decide) ?_
  refine va_put (D := D) (ci := 0) (v := .int (-1)) (ty := .int) (C := "ExecutiveDesk$ObjectState") (T := T_Obj) (N := 10) hx hb B.2.2.2.2.1 iw_Obj ty_Obj tyok_Obj nm_Obj B.2.2.2.1 hK hP hD hS 0 rfl rfl 3 (by decide) (B.2.2.2.2.1 _ L_Obj_27) (fun _ h9 => h9) rfl (by decide +kernel) rfl rfl (Nat.le_of_ble_eq_true rfl) d_Obj_init_30 (fun H locs hP hD hS => ?_)
  have hP : va_P D vwCl ([(h0, .inr (0, [.ref q1, .ref q6, .int 0, .int (-1), .int 0, .int 0, .int 0, .int 0, .int 0, .int 0]))] ++ (k_Rul ca q1 q3 q4 q5) ++ (k_Row8 ca q6 q8)) H := hP
  have hD : va_D A ([(h0, .inr (0, [.ref q1, .ref q6, .int 0, .int (-1), .int 0, .int 0, .int 0, .int 0, .int 0, .int 0]))] ++ (k_Rul ca q1 q3 q4 q5) ++ (k_Row8 ca q6 q8)) := hD
  refine lv_aload_n hx hb d_Obj_init_33 rfl (lv_at hl 0 rfl) ?_
  refine lv_iconst (v := (-1)) hx hb d_Obj_init_34 (by decide) ?_
  refine va_put (D := D) (ci := 0) (v := .int (-1)) (ty := .int) (C := "ExecutiveDesk$ObjectState") (T := T_Obj) (N := 10) hx hb B.2.2.2.2.1 iw_Obj ty_Obj tyok_Obj nm_Obj B.2.2.2.1 hK hP hD hS 0 rfl rfl 7 (by decide) (B.2.2.2.2.1 _ L_Obj_31) (fun _ h9 => h9) rfl (by decide +kernel) rfl rfl (Nat.le_of_ble_eq_true rfl) d_Obj_init_35 (fun H locs hP hD hS => ?_)
  have hP : va_P D vwCl ([(h0, .inr (0, [.ref q1, .ref q6, .int 0, .int (-1), .int 0, .int 0, .int 0, .int (-1), .int 0, .int 0]))] ++ (k_Rul ca q1 q3 q4 q5) ++ (k_Row8 ca q6 q8)) H := hP
  have hD : va_D A ([(h0, .inr (0, [.ref q1, .ref q6, .int 0, .int (-1), .int 0, .int 0, .int 0, .int (-1), .int 0, .int 0]))] ++ (k_Rul ca q1 q3 q4 q5) ++ (k_Row8 ca q6 q8)) := hD
  refine lv_aload_n hx hb d_Obj_init_38 rfl (lv_at hl 0 rfl) ?_
  refine lv_iconst (v := (-1)) hx hb d_Obj_init_39 (by decide) ?_
  refine va_put (D := D) (ci := 0) (v := .int (-1)) (ty := .int) (C := "ExecutiveDesk$ObjectState") (T := T_Obj) (N := 10) hx hb B.2.2.2.2.1 iw_Obj ty_Obj tyok_Obj nm_Obj B.2.2.2.1 hK hP hD hS 0 rfl rfl 9 (by decide) (B.2.2.2.2.1 _ L_Obj_34) (fun _ h9 => h9) rfl (by decide +kernel) rfl rfl (Nat.le_of_ble_eq_true rfl) d_Obj_init_40 (fun H locs hP hD hS => ?_)
  have hP : va_P D vwCl ([(h0, .inr (0, [.ref q1, .ref q6, .int 0, .int (-1), .int 0, .int 0, .int 0, .int (-1), .int 0, .int (-1)]))] ++ (k_Rul ca q1 q3 q4 q5) ++ (k_Row8 ca q6 q8)) H := hP
  have hD : va_D A ([(h0, .inr (0, [.ref q1, .ref q6, .int 0, .int (-1), .int 0, .int 0, .int 0, .int (-1), .int 0, .int (-1)]))] ++ (k_Rul ca q1 q3 q4 q5) ++ (k_Row8 ca q6 q8)) := hD
  exact ed_rC B hP hD hS ⟨q1, q3, q4, q5, q6, q8, rfl⟩ d_Obj_init_43
def k_Proc (ca : Nat → ClassId) (h0 q1 q3 : Nat) : va_W := ([(h0, .inr (1, [.ref q1, .ref q3, .int 0, .int 0, .int 0]))] ++ [(q1, .inl (ca 0, 8, .inl (upd (upd (upd (upd (upd (upd (upd (upd (fun _ => 0) 0 (-1)) 1 (-1)) 2 (-1)) 3 (-1)) 4 (-1)) 5 (-1)) 6 (-1)) 7 (-1))))] ++ [(q3, .inl (ca 0, 8, .inl (fun _ => 0)))])
abbrev rm_Proc_init : Room := { frames := 1, cells := 2, slots := 16, locals := 12 }
set_option maxHeartbeats 40000000 in
set_option maxRecDepth 100000 in
theorem C_Proc_init (l : Launch) (D : va_G) (ca : Nat → ClassId) (h0 : Nat) : ed_MC l y_Proc_init (Cond.code y_Proc_init prog_3_method_1_code 2 none :: ed_tb) rm_Proc_init D ca 2 16 [.ref h0] [(h0, .inr (1, [.null, .null, .int 0, .int 0, .int 0]))] (fun w => ∃ q1 q3 : Nat, w = k_Proc ca h0 q1 q3) := by
  refine ed_metC (cc := prog_3_method_1_code) (own := "ExecutiveDesk$ProcessState") (nL := 2) (by decide) rfl rfl rfl (Nat.le_of_ble_eq_true rfl) ?_
  intro p e s m args below meth c A B hA ls hP hD hS hl
  have hx := B.1
  have hb := B.2.1
  have hK := B.2.2.2.2.2.1
  have hl : lv_has ls 2 [(0, .ref h0)] := hl
  refine lv_aload_n hx hb d_Proc_init_0 rfl (lv_at hl 0 rfl) ?_
  refine W.objInit hx hb B.2.2.2.1 (B.2.2.2.2.1 _ L_Proc_3) (B.2.2.2.2.1 _ ed_oi) (B.2.2.2.2.1 _ ed_oc) rfl (by rw [B.2.2.1]; exact hl.1) rfl d_Proc_init_1 (Nat.le_of_ble_eq_true rfl) (Nat.le_of_ble_eq_true rfl) ?_
  refine W.eq (g2 := F0 m 4 ls []) rfl ?_
  refine lv_aload_n hx hb d_Proc_init_4 rfl (lv_at hl 0 rfl) ?_
  refine lv_bipush (v := 8) hx hb d_Proc_init_5 (by decide) ?_
  refine va_newa (atype := .int) (ty := .int) (a0 := (8, .inl (fun _ => 0))) hx hb (B.2.2.2.2.1 _ ed_a0) rfl hK hP hD hS hA (fun _ => rfl) (by decide) (N' := 8) (by decide) (by decide) (Nat.le_of_ble_eq_true rfl) (Nat.le_of_ble_eq_true rfl) d_Proc_init_7 (fun q1 cA2 H hKn hP hD hS => ?_)
  have hce := ed_caE 0 hKn rfl
  subst hce
  refine W.widen (k := 1) (n := 8) (by decide) (by decide) ?_
  refine va_putF (D := D) (ci := 1) (v := .ref q1) (ty := .array .int) (C := "ExecutiveDesk$ProcessState") (T := T_Proc) (N := 5) hx hb B.2.2.2.2.1 iw_Proc ty_Proc tyok_Proc nm_Proc B.2.2.2.1 hK hP hD hS 0 rfl rfl 0 (by decide) (B.2.2.2.2.1 _ L_Proc_9) (fun _ h9 => h9) rfl B.2.2.2.2.2.2.2.2.1 rfl (by decide +kernel) rfl rfl (Nat.le_of_ble_eq_true rfl) d_Proc_init_9 (fun H locs hP hD hS => ?_)
  have hP : va_P D vwCl ([(h0, .inr (1, [.ref q1, .null, .int 0, .int 0, .int 0]))] ++ [(q1, .inl (ca 0, 8, .inl (fun _ => 0)))]) H := hP
  have hD : va_D A ([(h0, .inr (1, [.ref q1, .null, .int 0, .int 0, .int 0]))] ++ [(q1, .inl (ca 0, 8, .inl (fun _ => 0)))]) := hD
  refine lv_aload_n hx hb d_Proc_init_12 rfl (lv_at hl 0 rfl) ?_
  refine lv_bipush (v := 8) hx hb d_Proc_init_13 (by decide) ?_
  refine va_newa (atype := .int) (ty := .int) (a0 := (8, .inl (fun _ => 0))) hx hb (B.2.2.2.2.1 _ ed_a0) rfl hK hP hD hS hA (fun _ => rfl) (by decide) (N' := 8) (by decide) (by decide) (Nat.le_of_ble_eq_true rfl) (Nat.le_of_ble_eq_true rfl) d_Proc_init_15 (fun q3 cA4 H hKn hP hD hS => ?_)
  have hce := ed_caE 0 hKn rfl
  subst hce
  refine W.widen (k := 2) (n := 16) (by decide) (by decide) ?_
  refine va_putF (D := D) (ci := 1) (v := .ref q3) (ty := .array .int) (C := "ExecutiveDesk$ProcessState") (T := T_Proc) (N := 5) hx hb B.2.2.2.2.1 iw_Proc ty_Proc tyok_Proc nm_Proc B.2.2.2.1 hK hP hD hS 0 rfl rfl 1 (by decide) (B.2.2.2.2.1 _ L_Proc_15) (fun _ h9 => h9) rfl B.2.2.2.2.2.2.2.2.1 rfl (by decide +kernel) rfl rfl (Nat.le_of_ble_eq_true rfl) d_Proc_init_17 (fun H locs hP hD hS => ?_)
  have hP : va_P D vwCl ([(h0, .inr (1, [.ref q1, .ref q3, .int 0, .int 0, .int 0]))] ++ [(q1, .inl (ca 0, 8, .inl (fun _ => 0)))] ++ [(q3, .inl (ca 0, 8, .inl (fun _ => 0)))]) H := hP
  have hD : va_D A ([(h0, .inr (1, [.ref q1, .ref q3, .int 0, .int 0, .int 0]))] ++ [(q1, .inl (ca 0, 8, .inl (fun _ => 0)))] ++ [(q3, .inl (ca 0, 8, .inl (fun _ => 0)))]) := hD
  refine lv_iconst (v := 0) hx hb d_Proc_init_20 (by decide) ?_
  refine lv_istore_n (lv' := [(1, .int 0), (0, .ref h0)]) hx hb d_Proc_init_21 rfl hl (by decide) rfl (fun ls hl => ?_)
  refine lv_iload_n hx hb d_Proc_init_22 rfl (lv_at hl 0 rfl) ?_
  refine lv_bipush (v := 8) hx hb d_Proc_init_23 (by decide) ?_
  refine lv_icmp_ge (tgt := 41) hx hb d_Proc_init_25 (by decide) (fun c0 => ?_) (fun c0 => ?_)
  · exact absurd c0 (by decide)
  refine lv_aload_n hx hb d_Proc_init_28 rfl (lv_at hl 1 rfl) ?_
  refine va_get (D := D) (ci := 1) (v := .ref q1) (C := "ExecutiveDesk$ProcessState") (T := T_Proc) (N := 5) hx hb B.2.2.2.2.1 iw_Proc B.2.2.2.1 hK hP 0 rfl rfl 0 (by decide) (B.2.2.2.2.1 _ L_Proc_9) (fun _ h9 => h9) rfl d_Proc_init_29 ?_
  refine lv_iload_n hx hb d_Proc_init_32 rfl (lv_at hl 0 rfl) ?_
  refine lv_iconst (v := (-1)) hx hb d_Proc_init_33 (by decide) ?_
  refine va_iast hx hb hK hP hD hS 1 0 rfl rfl (i := 0) (x := (-1)) (by unfold vp_in; decide) d_Proc_init_34 (fun H locs hP hD hS => ?_)
  have hP : va_P D vwCl ([(h0, .inr (1, [.ref q1, .ref q3, .int 0, .int 0, .int 0]))] ++ [(q1, .inl (ca 0, 8, .inl (upd (fun _ => 0) 0 (-1))))] ++ [(q3, .inl (ca 0, 8, .inl (fun _ => 0)))]) H := hP
  have hD : va_D A ([(h0, .inr (1, [.ref q1, .ref q3, .int 0, .int 0, .int 0]))] ++ [(q1, .inl (ca 0, 8, .inl (upd (fun _ => 0) 0 (-1))))] ++ [(q3, .inl (ca 0, 8, .inl (fun _ => 0)))]) := hD
  refine lv_iinc (v := 1) (lv' := [(1, .int 1), (0, .ref h0)]) hx hb d_Proc_init_35 hl (k := 0) rfl (by decide) (by decide) rfl (fun ls hl => ?_)
  refine lv_goto (tgt := 22) hx hb d_Proc_init_38 (by decide) ?_
  refine lv_iload_n hx hb d_Proc_init_22 rfl (lv_at hl 0 rfl) ?_
  refine lv_bipush (v := 8) hx hb d_Proc_init_23 (by decide) ?_
  refine lv_icmp_ge (tgt := 41) hx hb d_Proc_init_25 (by decide) (fun c0 => ?_) (fun c0 => ?_)
  · exact absurd c0 (by decide)
  refine lv_aload_n hx hb d_Proc_init_28 rfl (lv_at hl 1 rfl) ?_
  refine va_get (D := D) (ci := 1) (v := .ref q1) (C := "ExecutiveDesk$ProcessState") (T := T_Proc) (N := 5) hx hb B.2.2.2.2.1 iw_Proc B.2.2.2.1 hK hP 0 rfl rfl 0 (by decide) (B.2.2.2.2.1 _ L_Proc_9) (fun _ h9 => h9) rfl d_Proc_init_29 ?_
  refine lv_iload_n hx hb d_Proc_init_32 rfl (lv_at hl 0 rfl) ?_
  refine lv_iconst (v := (-1)) hx hb d_Proc_init_33 (by decide) ?_
  refine va_iast hx hb hK hP hD hS 1 0 rfl rfl (i := 1) (x := (-1)) (by unfold vp_in; decide) d_Proc_init_34 (fun H locs hP hD hS => ?_)
  have hP : va_P D vwCl ([(h0, .inr (1, [.ref q1, .ref q3, .int 0, .int 0, .int 0]))] ++ [(q1, .inl (ca 0, 8, .inl (upd (upd (fun _ => 0) 0 (-1)) 1 (-1))))] ++ [(q3, .inl (ca 0, 8, .inl (fun _ => 0)))]) H := hP
  have hD : va_D A ([(h0, .inr (1, [.ref q1, .ref q3, .int 0, .int 0, .int 0]))] ++ [(q1, .inl (ca 0, 8, .inl (upd (upd (fun _ => 0) 0 (-1)) 1 (-1))))] ++ [(q3, .inl (ca 0, 8, .inl (fun _ => 0)))]) := hD
  refine lv_iinc (v := 2) (lv' := [(1, .int 2), (0, .ref h0)]) hx hb d_Proc_init_35 hl (k := 0) rfl (by decide) (by decide) rfl (fun ls hl => ?_)
  refine lv_goto (tgt := 22) hx hb d_Proc_init_38 (by decide) ?_
  refine lv_iload_n hx hb d_Proc_init_22 rfl (lv_at hl 0 rfl) ?_
  refine lv_bipush (v := 8) hx hb d_Proc_init_23 (by decide) ?_
  refine lv_icmp_ge (tgt := 41) hx hb d_Proc_init_25 (by decide) (fun c0 => ?_) (fun c0 => ?_)
  · exact absurd c0 (by decide)
  refine lv_aload_n hx hb d_Proc_init_28 rfl (lv_at hl 1 rfl) ?_
  refine va_get (D := D) (ci := 1) (v := .ref q1) (C := "ExecutiveDesk$ProcessState") (T := T_Proc) (N := 5) hx hb B.2.2.2.2.1 iw_Proc B.2.2.2.1 hK hP 0 rfl rfl 0 (by decide) (B.2.2.2.2.1 _ L_Proc_9) (fun _ h9 => h9) rfl d_Proc_init_29 ?_
  refine lv_iload_n hx hb d_Proc_init_32 rfl (lv_at hl 0 rfl) ?_
  refine lv_iconst (v := (-1)) hx hb d_Proc_init_33 (by decide) ?_
  refine va_iast hx hb hK hP hD hS 1 0 rfl rfl (i := 2) (x := (-1)) (by unfold vp_in; decide) d_Proc_init_34 (fun H locs hP hD hS => ?_)
  have hP : va_P D vwCl ([(h0, .inr (1, [.ref q1, .ref q3, .int 0, .int 0, .int 0]))] ++ [(q1, .inl (ca 0, 8, .inl (upd (upd (upd (fun _ => 0) 0 (-1)) 1 (-1)) 2 (-1))))] ++ [(q3, .inl (ca 0, 8, .inl (fun _ => 0)))]) H := hP
  have hD : va_D A ([(h0, .inr (1, [.ref q1, .ref q3, .int 0, .int 0, .int 0]))] ++ [(q1, .inl (ca 0, 8, .inl (upd (upd (upd (fun _ => 0) 0 (-1)) 1 (-1)) 2 (-1))))] ++ [(q3, .inl (ca 0, 8, .inl (fun _ => 0)))]) := hD
  refine lv_iinc (v := 3) (lv' := [(1, .int 3), (0, .ref h0)]) hx hb d_Proc_init_35 hl (k := 0) rfl (by decide) (by decide) rfl (fun ls hl => ?_)
  refine lv_goto (tgt := 22) hx hb d_Proc_init_38 (by decide) ?_
  refine lv_iload_n hx hb d_Proc_init_22 rfl (lv_at hl 0 rfl) ?_
  refine lv_bipush (v := 8) hx hb d_Proc_init_23 (by decide) ?_
  refine lv_icmp_ge (tgt := 41) hx hb d_Proc_init_25 (by decide) (fun c0 => ?_) (fun c0 => ?_)
  · exact absurd c0 (by decide)
  refine lv_aload_n hx hb d_Proc_init_28 rfl (lv_at hl 1 rfl) ?_
  refine va_get (D := D) (ci := 1) (v := .ref q1) (C := "ExecutiveDesk$ProcessState") (T := T_Proc) (N := 5) hx hb B.2.2.2.2.1 iw_Proc B.2.2.2.1 hK hP 0 rfl rfl 0 (by decide) (B.2.2.2.2.1 _ L_Proc_9) (fun _ h9 => h9) rfl d_Proc_init_29 ?_
  refine lv_iload_n hx hb d_Proc_init_32 rfl (lv_at hl 0 rfl) ?_
  refine lv_iconst (v := (-1)) hx hb d_Proc_init_33 (by decide) ?_
  refine va_iast hx hb hK hP hD hS 1 0 rfl rfl (i := 3) (x := (-1)) (by unfold vp_in; decide) d_Proc_init_34 (fun H locs hP hD hS => ?_)
  have hP : va_P D vwCl ([(h0, .inr (1, [.ref q1, .ref q3, .int 0, .int 0, .int 0]))] ++ [(q1, .inl (ca 0, 8, .inl (upd (upd (upd (upd (fun _ => 0) 0 (-1)) 1 (-1)) 2 (-1)) 3 (-1))))] ++ [(q3, .inl (ca 0, 8, .inl (fun _ => 0)))]) H := hP
  have hD : va_D A ([(h0, .inr (1, [.ref q1, .ref q3, .int 0, .int 0, .int 0]))] ++ [(q1, .inl (ca 0, 8, .inl (upd (upd (upd (upd (fun _ => 0) 0 (-1)) 1 (-1)) 2 (-1)) 3 (-1))))] ++ [(q3, .inl (ca 0, 8, .inl (fun _ => 0)))]) := hD
  refine lv_iinc (v := 4) (lv' := [(1, .int 4), (0, .ref h0)]) hx hb d_Proc_init_35 hl (k := 0) rfl (by decide) (by decide) rfl (fun ls hl => ?_)
  refine lv_goto (tgt := 22) hx hb d_Proc_init_38 (by decide) ?_
  refine lv_iload_n hx hb d_Proc_init_22 rfl (lv_at hl 0 rfl) ?_
  refine lv_bipush (v := 8) hx hb d_Proc_init_23 (by decide) ?_
  refine lv_icmp_ge (tgt := 41) hx hb d_Proc_init_25 (by decide) (fun c0 => ?_) (fun c0 => ?_)
  · exact absurd c0 (by decide)
  refine lv_aload_n hx hb d_Proc_init_28 rfl (lv_at hl 1 rfl) ?_
  refine va_get (D := D) (ci := 1) (v := .ref q1) (C := "ExecutiveDesk$ProcessState") (T := T_Proc) (N := 5) hx hb B.2.2.2.2.1 iw_Proc B.2.2.2.1 hK hP 0 rfl rfl 0 (by decide) (B.2.2.2.2.1 _ L_Proc_9) (fun _ h9 => h9) rfl d_Proc_init_29 ?_
  refine lv_iload_n hx hb d_Proc_init_32 rfl (lv_at hl 0 rfl) ?_
  refine lv_iconst (v := (-1)) hx hb d_Proc_init_33 (by decide) ?_
  refine va_iast hx hb hK hP hD hS 1 0 rfl rfl (i := 4) (x := (-1)) (by unfold vp_in; decide) d_Proc_init_34 (fun H locs hP hD hS => ?_)
  have hP : va_P D vwCl ([(h0, .inr (1, [.ref q1, .ref q3, .int 0, .int 0, .int 0]))] ++ [(q1, .inl (ca 0, 8, .inl (upd (upd (upd (upd (upd (fun _ => 0) 0 (-1)) 1 (-1)) 2 (-1)) 3 (-1)) 4 (-1))))] ++ [(q3, .inl (ca 0, 8, .inl (fun _ => 0)))]) H := hP
  have hD : va_D A ([(h0, .inr (1, [.ref q1, .ref q3, .int 0, .int 0, .int 0]))] ++ [(q1, .inl (ca 0, 8, .inl (upd (upd (upd (upd (upd (fun _ => 0) 0 (-1)) 1 (-1)) 2 (-1)) 3 (-1)) 4 (-1))))] ++ [(q3, .inl (ca 0, 8, .inl (fun _ => 0)))]) := hD
  refine lv_iinc (v := 5) (lv' := [(1, .int 5), (0, .ref h0)]) hx hb d_Proc_init_35 hl (k := 0) rfl (by decide) (by decide) rfl (fun ls hl => ?_)
  refine lv_goto (tgt := 22) hx hb d_Proc_init_38 (by decide) ?_
  refine lv_iload_n hx hb d_Proc_init_22 rfl (lv_at hl 0 rfl) ?_
  refine lv_bipush (v := 8) hx hb d_Proc_init_23 (by decide) ?_
  refine lv_icmp_ge (tgt := 41) hx hb d_Proc_init_25 (by decide) (fun c0 => ?_) (fun c0 => ?_)
  · exact absurd c0 (by decide)
  refine lv_aload_n hx hb d_Proc_init_28 rfl (lv_at hl 1 rfl) ?_
  refine va_get (D := D) (ci := 1) (v := .ref q1) (C := "ExecutiveDesk$ProcessState") (T := T_Proc) (N := 5) hx hb B.2.2.2.2.1 iw_Proc B.2.2.2.1 hK hP 0 rfl rfl 0 (by decide) (B.2.2.2.2.1 _ L_Proc_9) (fun _ h9 => h9) rfl d_Proc_init_29 ?_
  refine lv_iload_n hx hb d_Proc_init_32 rfl (lv_at hl 0 rfl) ?_
  refine lv_iconst (v := (-1)) hx hb d_Proc_init_33 (by decide) ?_
  refine va_iast hx hb hK hP hD hS 1 0 rfl rfl (i := 5) (x := (-1)) (by unfold vp_in; decide) d_Proc_init_34 (fun H locs hP hD hS => ?_)
  have hP : va_P D vwCl ([(h0, .inr (1, [.ref q1, .ref q3, .int 0, .int 0, .int 0]))] ++ [(q1, .inl (ca 0, 8, .inl (upd (upd (upd (upd (upd (upd (fun _ => 0) 0 (-1)) 1 (-1)) 2 (-1)) 3 (-1)) 4 (-1)) 5 (-1))))] ++ [(q3, .inl (ca 0, 8, .inl (fun _ => 0)))]) H := hP
  have hD : va_D A ([(h0, .inr (1, [.ref q1, .ref q3, .int 0, .int 0, .int 0]))] ++ [(q1, .inl (ca 0, 8, .inl (upd (upd (upd (upd (upd (upd (fun _ => 0) 0 (-1)) 1 (-1)) 2 (-1)) 3 (-1)) 4 (-1)) 5 (-1))))] ++ [(q3, .inl (ca 0, 8, .inl (fun _ => 0)))]) := hD
  refine lv_iinc (v := 6) (lv' := [(1, .int 6), (0, .ref h0)]) hx hb d_Proc_init_35 hl (k := 0) rfl (by decide) (by decide) rfl (fun ls hl => ?_)
  refine lv_goto (tgt := 22) hx hb d_Proc_init_38 (by decide) ?_
  refine lv_iload_n hx hb d_Proc_init_22 rfl (lv_at hl 0 rfl) ?_
  refine lv_bipush (v := 8) hx hb d_Proc_init_23 (by decide) ?_
  refine lv_icmp_ge (tgt := 41) hx hb d_Proc_init_25 (by decide) (fun c0 => ?_) (fun c0 => ?_)
  · exact absurd c0 (by decide)
  refine lv_aload_n hx hb d_Proc_init_28 rfl (lv_at hl 1 rfl) ?_
  refine va_get (D := D) (ci := 1) (v := .ref q1) (C := "ExecutiveDesk$ProcessState") (T := T_Proc) (N := 5) hx hb B.2.2.2.2.1 iw_Proc B.2.2.2.1 hK hP 0 rfl rfl 0 (by decide) (B.2.2.2.2.1 _ L_Proc_9) (fun _ h9 => h9) rfl d_Proc_init_29 ?_
  refine lv_iload_n hx hb d_Proc_init_32 rfl (lv_at hl 0 rfl) ?_
  refine lv_iconst (v := (-1)) hx hb d_Proc_init_33 (by decide) ?_
  refine va_iast hx hb hK hP hD hS 1 0 rfl rfl (i := 6) (x := (-1)) (by unfold vp_in; decide) d_Proc_init_34 (fun H locs hP hD hS => ?_)
  have hP : va_P D vwCl ([(h0, .inr (1, [.ref q1, .ref q3, .int 0, .int 0, .int 0]))] ++ [(q1, .inl (ca 0, 8, .inl (upd (upd (upd (upd (upd (upd (upd (fun _ => 0) 0 (-1)) 1 (-1)) 2 (-1)) 3 (-1)) 4 (-1)) 5 (-1)) 6 (-1))))] ++ [(q3, .inl (ca 0, 8, .inl (fun _ => 0)))]) H := hP
  have hD : va_D A ([(h0, .inr (1, [.ref q1, .ref q3, .int 0, .int 0, .int 0]))] ++ [(q1, .inl (ca 0, 8, .inl (upd (upd (upd (upd (upd (upd (upd (fun _ => 0) 0 (-1)) 1 (-1)) 2 (-1)) 3 (-1)) 4 (-1)) 5 (-1)) 6 (-1))))] ++ [(q3, .inl (ca 0, 8, .inl (fun _ => 0)))]) := hD
  refine lv_iinc (v := 7) (lv' := [(1, .int 7), (0, .ref h0)]) hx hb d_Proc_init_35 hl (k := 0) rfl (by decide) (by decide) rfl (fun ls hl => ?_)
  refine lv_goto (tgt := 22) hx hb d_Proc_init_38 (by decide) ?_
  refine lv_iload_n hx hb d_Proc_init_22 rfl (lv_at hl 0 rfl) ?_
  refine lv_bipush (v := 8) hx hb d_Proc_init_23 (by decide) ?_
  refine lv_icmp_ge (tgt := 41) hx hb d_Proc_init_25 (by decide) (fun c0 => ?_) (fun c0 => ?_)
  · exact absurd c0 (by decide)
  refine lv_aload_n hx hb d_Proc_init_28 rfl (lv_at hl 1 rfl) ?_
  refine va_get (D := D) (ci := 1) (v := .ref q1) (C := "ExecutiveDesk$ProcessState") (T := T_Proc) (N := 5) hx hb B.2.2.2.2.1 iw_Proc B.2.2.2.1 hK hP 0 rfl rfl 0 (by decide) (B.2.2.2.2.1 _ L_Proc_9) (fun _ h9 => h9) rfl d_Proc_init_29 ?_
  refine lv_iload_n hx hb d_Proc_init_32 rfl (lv_at hl 0 rfl) ?_
  refine lv_iconst (v := (-1)) hx hb d_Proc_init_33 (by decide) ?_
  refine va_iast hx hb hK hP hD hS 1 0 rfl rfl (i := 7) (x := (-1)) (by unfold vp_in; decide) d_Proc_init_34 (fun H locs hP hD hS => ?_)
  have hP : va_P D vwCl ([(h0, .inr (1, [.ref q1, .ref q3, .int 0, .int 0, .int 0]))] ++ [(q1, .inl (ca 0, 8, .inl (upd (upd (upd (upd (upd (upd (upd (upd (fun _ => 0) 0 (-1)) 1 (-1)) 2 (-1)) 3 (-1)) 4 (-1)) 5 (-1)) 6 (-1)) 7 (-1))))] ++ [(q3, .inl (ca 0, 8, .inl (fun _ => 0)))]) H := hP
  have hD : va_D A ([(h0, .inr (1, [.ref q1, .ref q3, .int 0, .int 0, .int 0]))] ++ [(q1, .inl (ca 0, 8, .inl (upd (upd (upd (upd (upd (upd (upd (upd (fun _ => 0) 0 (-1)) 1 (-1)) 2 (-1)) 3 (-1)) 4 (-1)) 5 (-1)) 6 (-1)) 7 (-1))))] ++ [(q3, .inl (ca 0, 8, .inl (fun _ => 0)))]) := hD
  refine lv_iinc (v := 8) (lv' := [(1, .int 8), (0, .ref h0)]) hx hb d_Proc_init_35 hl (k := 0) rfl (by decide) (by decide) rfl (fun ls hl => ?_)
  refine lv_goto (tgt := 22) hx hb d_Proc_init_38 (by decide) ?_
  refine lv_iload_n hx hb d_Proc_init_22 rfl (lv_at hl 0 rfl) ?_
  refine lv_bipush (v := 8) hx hb d_Proc_init_23 (by decide) ?_
  refine lv_icmp_ge (tgt := 41) hx hb d_Proc_init_25 (by decide) (fun c0 => ?_) (fun c0 => ?_)
  rotate_left
  · exact absurd (by decide) c0
  exact ed_rC B hP hD hS ⟨q1, q3, rfl⟩ d_Proc_init_41
