def k_Mod (ca : Nat → ClassId) (h0 q1 q2 q3 q4 q5 q6 q7 q8 q9 q10 q11 q12 q13 q14 q15 q16 q17 q18 q19 q20 q21 q22 q23 q24 q25 q26 q27 q28 q29 q30 q31 q32 q33 q34 q35 q36 q37 q38 q39 q40 q41 q42 : Nat) : va_W := (h0, .inr (8, [.ref q1, .ref q2, .ref q3, .ref q4, .ref q5, .ref q6, .ref q7, .ref q8, .ref q9, .ref q10, .ref q11, .ref q12, .ref q13, .ref q14, .ref q15, .ref q16, .ref q17, .ref q18, .ref q19, .ref q20, .ref q21, .ref q22, .ref q23, .ref q24, .ref q25, .ref q26, .ref q27, .ref q28, .ref q29, .ref q30, .ref q31, .ref q32, .ref q33, .ref q34, .ref q35, .ref q36, .ref q37, .ref q38, .ref q39, .ref q40, .ref q41, .ref q42, .int 0, .int 0, .int (-1), .int (-1), .int 0, .int 0, .int 0, .int 0, .int 0, .int 0, .int 0])) :: [(q1, .inl (ca 0, 4, .inl (fun _ => 0))), (q2, .inl (ca 0, 4, .inl (fun _ => 0))), (q3, .inl (ca 0, 4, .inl (fun _ => 0))), (q4, .inl (ca 0, 32, .inl (ed_fi 32))), (q5, .inl (ca 0, 32, .inl (fun _ => 0))), (q6, .inl (ca 0, 8, .inl (fun _ => 0))), (q7, .inl (ca 0, 8, .inl (fun _ => 0))), (q8, .inl (ca 0, 8, .inl (fun _ => 0))), (q9, .inl (ca 0, 8, .inl (fun _ => 0))), (q10, .inl (ca 0, 8, .inl (fun _ => 0))), (q11, .inl (ca 0, 8, .inl (fun _ => 0))), (q12, .inl (ca 0, 8, .inl (fun _ => 0))), (q13, .inl (ca 0, 8, .inl (fun _ => 0))), (q14, .inl (ca 0, 8, .inl (fun _ => 0))), (q15, .inl (ca 0, 8, .inl (fun _ => 0))), (q16, .inl (ca 0, 8, .inl (fun _ => 0))), (q17, .inl (ca 0, 8, .inl (fun _ => 0))), (q18, .inl (ca 0, 24, .inl (fun _ => 0))), (q19, .inl (ca 0, 32, .inl (fun _ => 0))), (q20, .inl (ca 6, 16, .inl (fun _ => 0))), (q21, .inl (ca 6, 16, .inl (fun _ => 0))), (q22, .inl (ca 6, 16, .inl (fun _ => 0))), (q23, .inl (ca 0, 16, .inl (fun _ => 0))), (q24, .inl (ca 0, 16, .inl (fun _ => 0))), (q25, .inl (ca 0, 16, .inl (fun _ => 0))), (q26, .inl (ca 0, 16, .inl (fun _ => 0))), (q27, .inl (ca 0, 16, .inl (fun _ => 0))), (q28, .inl (ca 0, 16, .inl (fun _ => 0))), (q29, .inl (ca 0, 64, .inl (fun _ => 0))), (q30, .inl (ca 0, 64, .inl (fun _ => 0))), (q31, .inl (ca 0, 64, .inl (fun _ => 0))), (q32, .inl (ca 0, 8, .inl (ed_fi 8))), (q33, .inl (ca 0, 8, .inl (fun _ => 0))), (q34, .inl (ca 0, 8, .inl (fun _ => 0))), (q35, .inl (ca 0, 8, .inl (fun _ => 0))), (q36, .inl (ca 0, 8, .inl (fun _ => 0))), (q37, .inl (ca 0, 8, .inl (fun _ => 0))), (q38, .inl (ca 0, 8, .inl (fun _ => 0))), (q39, .inl (ca 6, 8, .inl (fun _ => 0))), (q40, .inl (ca 6, 8, .inl (fun _ => 0))), (q41, .inl (ca 0, 8, .inl (fun _ => 0))), (q42, .inl (ca 6, 8, .inl (fun _ => 0)))]
set_option maxHeartbeats 40000000 in
set_option maxRecDepth 100000 in
theorem C_Mod_init (l : Launch) (D : va_G) (ca : Nat → ClassId) (h0 : Nat) : ed_MC l y_Mod_init (Cond.code y_Mod_init prog_10_method_1_code 2 none :: ed_tb) rm_Mod_init D ca 42 652 [.ref h0] [(h0, .inr (8, [.null, .null, .null, .null, .null, .null, .null, .null, .null, .null, .null, .null, .null, .null, .null, .null, .null, .null, .null, .null, .null, .null, .null, .null, .null, .null, .null, .null, .null, .null, .null, .null, .null, .null, .null, .null, .null, .null, .null, .null, .null, .null, .int 0, .int 0, .int 0, .int 0, .int 0, .int 0, .int 0, .int 0, .int 0, .int 0, .int 0]))] (fun w => ∃ q1 q2 q3 q4 q5 q6 q7 q8 q9 q10 q11 q12 q13 q14 q15 q16 q17 q18 q19 q20 q21 q22 q23 q24 q25 q26 q27 q28 q29 q30 q31 q32 q33 q34 q35 q36 q37 q38 q39 q40 q41 q42 : Nat, w = k_Mod ca h0 q1 q2 q3 q4 q5 q6 q7 q8 q9 q10 q11 q12 q13 q14 q15 q16 q17 q18 q19 q20 q21 q22 q23 q24 q25 q26 q27 q28 q29 q30 q31 q32 q33 q34 q35 q36 q37 q38 q39 q40 q41 q42) := by
  refine ed_metC (cc := prog_10_method_1_code) (own := "ExecutiveDeskModel") (nL := 2) (by decide) rfl rfl rfl (Nat.le_of_ble_eq_true rfl) ?_
  intro p e s m args below meth c A B hA ls hP hD hS hl
  have hx := B.1
  have hb := B.2.1
  have hK := B.2.2.2.2.2.1
  have hl : lv_has ls 2 [(0, .ref h0)] := hl
  obtain ⟨fs0, hf0⟩ : ∃ z : List Value, z = [.null, .null, .null, .null, .null, .null, .null, .null, .null, .null, .null, .null, .null, .null, .null, .null, .null, .null, .null, .null, .null, .null, .null, .null, .null, .null, .null, .null, .null, .null, .null, .null, .null, .null, .null, .null, .null, .null, .null, .null, .null, .null, .int 0, .int 0, .int 0, .int 0, .int 0, .int 0, .int 0, .int 0, .int 0, .int 0, .int 0] := ⟨_, rfl⟩
  have hn0 : fs0.length = 53 := by rw [hf0]; rfl
  rw [← hf0] at hP hD
  obtain ⟨tl0, ht0⟩ : ∃ z : va_W, z = [] := ⟨_, rfl⟩
  have hm0 : tl0.length = 0 := by rw [ht0]; rfl
  rw [← ht0] at hP hD
  have ef0 := hf0
  have et0 := ht0
  refine lv_aload_n hx hb d_Mod_init_0 rfl (lv_at hl 0 rfl) ?_
  refine W.objInit hx hb B.2.2.2.1 (B.2.2.2.2.1 _ L_Mod_1) (B.2.2.2.2.1 _ ed_oi) (B.2.2.2.2.1 _ ed_oc) rfl (by rw [B.2.2.1]; exact hl.1) rfl d_Mod_init_1 (Nat.le_of_ble_eq_true rfl) (Nat.le_of_ble_eq_true rfl) ?_
  refine W.eq (g2 := F0 m 4 ls []) rfl ?_
  refine lv_aload_n hx hb d_Mod_init_4 rfl (lv_at hl 0 rfl) ?_
  refine lv_iconst (v := 4) hx hb d_Mod_init_5 (by decide) ?_
  refine va_newa (atype := .int) (ty := .int) (a0 := (4, .inl (fun _ => 0))) hx hb (B.2.2.2.2.1 _ ed_a0) rfl hK hP hD hS hA (fun _ => rfl) (by decide) (N' := 4) (by decide) (by decide) (Nat.le_of_ble_eq_true rfl) (Nat.le_of_ble_eq_true rfl) d_Mod_init_6 (fun q1 cA H hKn hP hD hS => ?_)
  have hce := ed_caE 0 hKn rfl
  subst hce
  clear hKn
  refine W.widen (k := 1) (n := 4) (by decide) (by decide) ?_
  obtain ⟨tl1, ht1⟩ : ∃ z : va_W, z = tl0 ++ [(q1, .inl (ca 0, 4, .inl (fun _ => 0)))] := ⟨_, rfl⟩
  have hm1 : tl1.length = 1 := by rw [ht1, List.length_append, hm0]; rfl
  have hP : va_P D vwCl ((h0, .inr (8, fs0)) :: tl1) H := by rw [ht1]; exact hP
  have hD : va_D A ((h0, .inr (8, fs0)) :: tl1) := by rw [ht1]; exact hD
  have hr1 : tl1[0]? = some (q1, .inl (ca 0, 4, .inl (fun _ => 0))) := by rw [ht1, List.getElem?_append_right (by rw [hm0]; decide), hm0]; rfl
  have et1 : tl1 = [(q1, .inl (ca 0, 4, .inl (fun _ => 0)))] := by rw [ht1, et0]; rfl
  refine va_putF (D := D) (ci := 8) (v := .ref q1) (ty := .array .int) (C := "ExecutiveDeskModel") (T := T_Mod) (N := 53) hx hb B.2.2.2.2.1 iw_Mod ty_Mod tyok_Mod nm_Mod B.2.2.2.1 hK hP hD hS 0 rfl rfl 0 (by decide) (B.2.2.2.2.1 _ L_Mod_7) (fun _ h9 => h9) rfl B.2.2.2.2.2.2.2.2.1 rfl (by decide +kernel) rfl rfl (by rw [hn0]; decide) d_Mod_init_8 (fun H locs hP hD hS => ?_)
  obtain ⟨fs1, hf1⟩ : ∃ z : List Value, z = fs0.set 0 (.ref q1) := ⟨_, rfl⟩
  have hn1 : fs1.length = 53 := by rw [hf1, List.length_set]; exact hn0
  have hP : va_P D vwCl ((h0, .inr (8, fs1)) :: tl1) H := by rw [hf1]; exact hP
  have hD : va_D A ((h0, .inr (8, fs1)) :: tl1) := by rw [hf1]; exact hD
  have ef1 : fs1 = [.ref q1, .null, .null, .null, .null, .null, .null, .null, .null, .null, .null, .null, .null, .null, .null, .null, .null, .null, .null, .null, .null, .null, .null, .null, .null, .null, .null, .null, .null, .null, .null, .null, .null, .null, .null, .null, .null, .null, .null, .null, .null, .null, .int 0, .int 0, .int 0, .int 0, .int 0, .int 0, .int 0, .int 0, .int 0, .int 0, .int 0] := by rw [hf1, ef0]; rfl
  refine lv_aload_n hx hb d_Mod_init_11 rfl (lv_at hl 0 rfl) ?_
  refine lv_iconst (v := 4) hx hb d_Mod_init_12 (by decide) ?_
  refine va_newa (atype := .int) (ty := .int) (a0 := (4, .inl (fun _ => 0))) hx hb (B.2.2.2.2.1 _ ed_a0) rfl hK hP hD hS hA (fun _ => rfl) (by decide) (N' := 4) (by decide) (by decide) (Nat.le_of_ble_eq_true rfl) (Nat.le_of_ble_eq_true rfl) d_Mod_init_13 (fun q2 cA H hKn hP hD hS => ?_)
  have hce := ed_caE 0 hKn rfl
  subst hce
  clear hKn
  refine W.widen (k := 2) (n := 8) (by decide) (by decide) ?_
  obtain ⟨tl2, ht2⟩ : ∃ z : va_W, z = tl1 ++ [(q2, .inl (ca 0, 4, .inl (fun _ => 0)))] := ⟨_, rfl⟩
  have hm2 : tl2.length = 2 := by rw [ht2, List.length_append, hm1]; rfl
  have hP : va_P D vwCl ((h0, .inr (8, fs1)) :: tl2) H := by rw [ht2]; exact hP
  have hD : va_D A ((h0, .inr (8, fs1)) :: tl2) := by rw [ht2]; exact hD
  have hr2 : tl2[1]? = some (q2, .inl (ca 0, 4, .inl (fun _ => 0))) := by rw [ht2, List.getElem?_append_right (by rw [hm1]; decide), hm1]; rfl
  have et2 : tl2 = [(q1, .inl (ca 0, 4, .inl (fun _ => 0))), (q2, .inl (ca 0, 4, .inl (fun _ => 0)))] := by rw [ht2, et1]; rfl
  refine va_putF (D := D) (ci := 8) (v := .ref q2) (ty := .array .int) (C := "ExecutiveDeskModel") (T := T_Mod) (N := 53) hx hb B.2.2.2.2.1 iw_Mod ty_Mod tyok_Mod nm_Mod B.2.2.2.1 hK hP hD hS 0 rfl rfl 1 (by decide) (B.2.2.2.2.1 _ L_Mod_13) (fun _ h9 => h9) rfl B.2.2.2.2.2.2.2.2.1 rfl (by decide +kernel) rfl rfl (by rw [hn1]; decide) d_Mod_init_15 (fun H locs hP hD hS => ?_)
  obtain ⟨fs2, hf2⟩ : ∃ z : List Value, z = fs1.set 1 (.ref q2) := ⟨_, rfl⟩
  have hn2 : fs2.length = 53 := by rw [hf2, List.length_set]; exact hn1
  have hP : va_P D vwCl ((h0, .inr (8, fs2)) :: tl2) H := by rw [hf2]; exact hP
  have hD : va_D A ((h0, .inr (8, fs2)) :: tl2) := by rw [hf2]; exact hD
  have ef2 : fs2 = [.ref q1, .ref q2, .null, .null, .null, .null, .null, .null, .null, .null, .null, .null, .null, .null, .null, .null, .null, .null, .null, .null, .null, .null, .null, .null, .null, .null, .null, .null, .null, .null, .null, .null, .null, .null, .null, .null, .null, .null, .null, .null, .null, .null, .int 0, .int 0, .int 0, .int 0, .int 0, .int 0, .int 0, .int 0, .int 0, .int 0, .int 0] := by rw [hf2, ef1]; rfl
  refine lv_aload_n hx hb d_Mod_init_18 rfl (lv_at hl 0 rfl) ?_
  refine lv_iconst (v := 4) hx hb d_Mod_init_19 (by decide) ?_
  refine va_newa (atype := .int) (ty := .int) (a0 := (4, .inl (fun _ => 0))) hx hb (B.2.2.2.2.1 _ ed_a0) rfl hK hP hD hS hA (fun _ => rfl) (by decide) (N' := 4) (by decide) (by decide) (Nat.le_of_ble_eq_true rfl) (Nat.le_of_ble_eq_true rfl) d_Mod_init_20 (fun q3 cA H hKn hP hD hS => ?_)
  have hce := ed_caE 0 hKn rfl
  subst hce
  clear hKn
  refine W.widen (k := 3) (n := 12) (by decide) (by decide) ?_
  obtain ⟨tl3, ht3⟩ : ∃ z : va_W, z = tl2 ++ [(q3, .inl (ca 0, 4, .inl (fun _ => 0)))] := ⟨_, rfl⟩
  have hm3 : tl3.length = 3 := by rw [ht3, List.length_append, hm2]; rfl
  have hP : va_P D vwCl ((h0, .inr (8, fs2)) :: tl3) H := by rw [ht3]; exact hP
  have hD : va_D A ((h0, .inr (8, fs2)) :: tl3) := by rw [ht3]; exact hD
  have hr3 : tl3[2]? = some (q3, .inl (ca 0, 4, .inl (fun _ => 0))) := by rw [ht3, List.getElem?_append_right (by rw [hm2]; decide), hm2]; rfl
  have et3 : tl3 = [(q1, .inl (ca 0, 4, .inl (fun _ => 0))), (q2, .inl (ca 0, 4, .inl (fun _ => 0))), (q3, .inl (ca 0, 4, .inl (fun _ => 0)))] := by rw [ht3, et2]; rfl
  refine va_putF (D := D) (ci := 8) (v := .ref q3) (ty := .array .int) (C := "ExecutiveDeskModel") (T := T_Mod) (N := 53) hx hb B.2.2.2.2.1 iw_Mod ty_Mod tyok_Mod nm_Mod B.2.2.2.1 hK hP hD hS 0 rfl rfl 2 (by decide) (B.2.2.2.2.1 _ L_Mod_16) (fun _ h9 => h9) rfl B.2.2.2.2.2.2.2.2.1 rfl (by decide +kernel) rfl rfl (by rw [hn2]; decide) d_Mod_init_22 (fun H locs hP hD hS => ?_)
  obtain ⟨fs3, hf3⟩ : ∃ z : List Value, z = fs2.set 2 (.ref q3) := ⟨_, rfl⟩
  have hn3 : fs3.length = 53 := by rw [hf3, List.length_set]; exact hn2
  have hP : va_P D vwCl ((h0, .inr (8, fs3)) :: tl3) H := by rw [hf3]; exact hP
  have hD : va_D A ((h0, .inr (8, fs3)) :: tl3) := by rw [hf3]; exact hD
  have ef3 : fs3 = [.ref q1, .ref q2, .ref q3, .null, .null, .null, .null, .null, .null, .null, .null, .null, .null, .null, .null, .null, .null, .null, .null, .null, .null, .null, .null, .null, .null, .null, .null, .null, .null, .null, .null, .null, .null, .null, .null, .null, .null, .null, .null, .null, .null, .null, .int 0, .int 0, .int 0, .int 0, .int 0, .int 0, .int 0, .int 0, .int 0, .int 0, .int 0] := by rw [hf3, ef2]; rfl
  refine lv_aload_n hx hb d_Mod_init_25 rfl (lv_at hl 0 rfl) ?_
  refine lv_bipush (v := 32) hx hb d_Mod_init_26 (by decide) ?_
  refine va_newa (atype := .int) (ty := .int) (a0 := (32, .inl (fun _ => 0))) hx hb (B.2.2.2.2.1 _ ed_a0) rfl hK hP hD hS hA (fun _ => rfl) (by decide) (N' := 32) (by decide) (by decide) (Nat.le_of_ble_eq_true rfl) (Nat.le_of_ble_eq_true rfl) d_Mod_init_28 (fun q4 cA H hKn hP hD hS => ?_)
  have hce := ed_caE 0 hKn rfl
  subst hce
  clear hKn
  refine W.widen (k := 4) (n := 44) (by decide) (by decide) ?_
  obtain ⟨tl4, ht4⟩ : ∃ z : va_W, z = tl3 ++ [(q4, .inl (ca 0, 32, .inl (fun _ => 0)))] := ⟨_, rfl⟩
  have hm4 : tl4.length = 4 := by rw [ht4, List.length_append, hm3]; rfl
  have hP : va_P D vwCl ((h0, .inr (8, fs3)) :: tl4) H := by rw [ht4]; exact hP
  have hD : va_D A ((h0, .inr (8, fs3)) :: tl4) := by rw [ht4]; exact hD
  have hr4 : tl4[3]? = some (q4, .inl (ca 0, 32, .inl (fun _ => 0))) := by rw [ht4, List.getElem?_append_right (by rw [hm3]; decide), hm3]; rfl
  have et4 : tl4 = [(q1, .inl (ca 0, 4, .inl (fun _ => 0))), (q2, .inl (ca 0, 4, .inl (fun _ => 0))), (q3, .inl (ca 0, 4, .inl (fun _ => 0))), (q4, .inl (ca 0, 32, .inl (fun _ => 0)))] := by rw [ht4, et3]; rfl
  refine va_putF (D := D) (ci := 8) (v := .ref q4) (ty := .array .int) (C := "ExecutiveDeskModel") (T := T_Mod) (N := 53) hx hb B.2.2.2.2.1 iw_Mod ty_Mod tyok_Mod nm_Mod B.2.2.2.1 hK hP hD hS 0 rfl rfl 3 (by decide) (B.2.2.2.2.1 _ L_Mod_19) (fun _ h9 => h9) rfl B.2.2.2.2.2.2.2.2.1 rfl (by decide +kernel) rfl rfl (by rw [hn3]; decide) d_Mod_init_30 (fun H locs hP hD hS => ?_)
  obtain ⟨fs4, hf4⟩ : ∃ z : List Value, z = fs3.set 3 (.ref q4) := ⟨_, rfl⟩
  have hn4 : fs4.length = 53 := by rw [hf4, List.length_set]; exact hn3
  have hP : va_P D vwCl ((h0, .inr (8, fs4)) :: tl4) H := by rw [hf4]; exact hP
  have hD : va_D A ((h0, .inr (8, fs4)) :: tl4) := by rw [hf4]; exact hD
  have g3 : fs4[3]? = some (.ref q4) := by rw [hf4, List.getElem?_set_self (by rw [hn3]; decide)]
  have v3 := hr4
  have ef4 : fs4 = [.ref q1, .ref q2, .ref q3, .ref q4, .null, .null, .null, .null, .null, .null, .null, .null, .null, .null, .null, .null, .null, .null, .null, .null, .null, .null, .null, .null, .null, .null, .null, .null, .null, .null, .null, .null, .null, .null, .null, .null, .null, .null, .null, .null, .null, .null, .int 0, .int 0, .int 0, .int 0, .int 0, .int 0, .int 0, .int 0, .int 0, .int 0, .int 0] := by rw [hf4, ef3]; rfl
  refine lv_aload_n hx hb d_Mod_init_33 rfl (lv_at hl 0 rfl) ?_
  refine lv_bipush (v := 32) hx hb d_Mod_init_34 (by decide) ?_
  refine va_newa (atype := .int) (ty := .int) (a0 := (32, .inl (fun _ => 0))) hx hb (B.2.2.2.2.1 _ ed_a0) rfl hK hP hD hS hA (fun _ => rfl) (by decide) (N' := 32) (by decide) (by decide) (Nat.le_of_ble_eq_true rfl) (Nat.le_of_ble_eq_true rfl) d_Mod_init_36 (fun q5 cA H hKn hP hD hS => ?_)
  have hce := ed_caE 0 hKn rfl
  subst hce
  clear hKn
  refine W.widen (k := 5) (n := 76) (by decide) (by decide) ?_
  obtain ⟨tl5, ht5⟩ : ∃ z : va_W, z = tl4 ++ [(q5, .inl (ca 0, 32, .inl (fun _ => 0)))] := ⟨_, rfl⟩
  have hm5 : tl5.length = 5 := by rw [ht5, List.length_append, hm4]; rfl
  have hP : va_P D vwCl ((h0, .inr (8, fs4)) :: tl5) H := by rw [ht5]; exact hP
  have hD : va_D A ((h0, .inr (8, fs4)) :: tl5) := by rw [ht5]; exact hD
  have hr5 : tl5[4]? = some (q5, .inl (ca 0, 32, .inl (fun _ => 0))) := by rw [ht5, List.getElem?_append_right (by rw [hm4]; decide), hm4]; rfl
  have v3 : tl5[3]? = some (q4, .inl (ca 0, 32, .inl (fun _ => 0))) := by rw [ht5, List.getElem?_append_left (by rw [hm4]; decide)]; exact v3
  have et5 : tl5 = [(q1, .inl (ca 0, 4, .inl (fun _ => 0))), (q2, .inl (ca 0, 4, .inl (fun _ => 0))), (q3, .inl (ca 0, 4, .inl (fun _ => 0))), (q4, .inl (ca 0, 32, .inl (fun _ => 0))), (q5, .inl (ca 0, 32, .inl (fun _ => 0)))] := by rw [ht5, et4]; rfl
  refine va_putF (D := D) (ci := 8) (v := .ref q5) (ty := .array .int) (C := "ExecutiveDeskModel") (T := T_Mod) (N := 53) hx hb B.2.2.2.2.1 iw_Mod ty_Mod tyok_Mod nm_Mod B.2.2.2.1 hK hP hD hS 0 rfl rfl 4 (by decide) (B.2.2.2.2.1 _ L_Mod_22) (fun _ h9 => h9) rfl B.2.2.2.2.2.2.2.2.1 rfl (by decide +kernel) rfl rfl (by rw [hn4]; decide) d_Mod_init_38 (fun H locs hP hD hS => ?_)
  obtain ⟨fs5, hf5⟩ : ∃ z : List Value, z = fs4.set 4 (.ref q5) := ⟨_, rfl⟩
  have hn5 : fs5.length = 53 := by rw [hf5, List.length_set]; exact hn4
  have hP : va_P D vwCl ((h0, .inr (8, fs5)) :: tl5) H := by rw [hf5]; exact hP
  have hD : va_D A ((h0, .inr (8, fs5)) :: tl5) := by rw [hf5]; exact hD
  have g3 : fs5[3]? = some (.ref q4) := by rw [hf5, List.getElem?_set_ne (by decide)]; exact g3
  have ef5 : fs5 = [.ref q1, .ref q2, .ref q3, .ref q4, .ref q5, .null, .null, .null, .null, .null, .null, .null, .null, .null, .null, .null, .null, .null, .null, .null, .null, .null, .null, .null, .null, .null, .null, .null, .null, .null, .null, .null, .null, .null, .null, .null, .null, .null, .null, .null, .null, .null, .int 0, .int 0, .int 0, .int 0, .int 0, .int 0, .int 0, .int 0, .int 0, .int 0, .int 0] := by rw [hf5, ef4]; rfl
  refine lv_aload_n hx hb d_Mod_init_41 rfl (lv_at hl 0 rfl) ?_
  refine lv_bipush (v := 8) hx hb d_Mod_init_42 (by decide) ?_
  refine va_newa (atype := .int) (ty := .int) (a0 := (8, .inl (fun _ => 0))) hx hb (B.2.2.2.2.1 _ ed_a0) rfl hK hP hD hS hA (fun _ => rfl) (by decide) (N' := 8) (by decide) (by decide) (Nat.le_of_ble_eq_true rfl) (Nat.le_of_ble_eq_true rfl) d_Mod_init_44 (fun q6 cA H hKn hP hD hS => ?_)
  have hce := ed_caE 0 hKn rfl
  subst hce
  clear hKn
  refine W.widen (k := 6) (n := 84) (by decide) (by decide) ?_
  obtain ⟨tl6, ht6⟩ : ∃ z : va_W, z = tl5 ++ [(q6, .inl (ca 0, 8, .inl (fun _ => 0)))] := ⟨_, rfl⟩
  have hm6 : tl6.length = 6 := by rw [ht6, List.length_append, hm5]; rfl
  have hP : va_P D vwCl ((h0, .inr (8, fs5)) :: tl6) H := by rw [ht6]; exact hP
  have hD : va_D A ((h0, .inr (8, fs5)) :: tl6) := by rw [ht6]; exact hD
  have hr6 : tl6[5]? = some (q6, .inl (ca 0, 8, .inl (fun _ => 0))) := by rw [ht6, List.getElem?_append_right (by rw [hm5]; decide), hm5]; rfl
  have v3 : tl6[3]? = some (q4, .inl (ca 0, 32, .inl (fun _ => 0))) := by rw [ht6, List.getElem?_append_left (by rw [hm5]; decide)]; exact v3
  have et6 : tl6 = [(q1, .inl (ca 0, 4, .inl (fun _ => 0))), (q2, .inl (ca 0, 4, .inl (fun _ => 0))), (q3, .inl (ca 0, 4, .inl (fun _ => 0))), (q4, .inl (ca 0, 32, .inl (fun _ => 0))), (q5, .inl (ca 0, 32, .inl (fun _ => 0))), (q6, .inl (ca 0, 8, .inl (fun _ => 0)))] := by rw [ht6, et5]; rfl
  refine va_putF (D := D) (ci := 8) (v := .ref q6) (ty := .array .int) (C := "ExecutiveDeskModel") (T := T_Mod) (N := 53) hx hb B.2.2.2.2.1 iw_Mod ty_Mod tyok_Mod nm_Mod B.2.2.2.1 hK hP hD hS 0 rfl rfl 5 (by decide) (B.2.2.2.2.1 _ L_Mod_25) (fun _ h9 => h9) rfl B.2.2.2.2.2.2.2.2.1 rfl (by decide +kernel) rfl rfl (by rw [hn5]; decide) d_Mod_init_46 (fun H locs hP hD hS => ?_)
  obtain ⟨fs6, hf6⟩ : ∃ z : List Value, z = fs5.set 5 (.ref q6) := ⟨_, rfl⟩
  have hn6 : fs6.length = 53 := by rw [hf6, List.length_set]; exact hn5
  have hP : va_P D vwCl ((h0, .inr (8, fs6)) :: tl6) H := by rw [hf6]; exact hP
  have hD : va_D A ((h0, .inr (8, fs6)) :: tl6) := by rw [hf6]; exact hD
  have g3 : fs6[3]? = some (.ref q4) := by rw [hf6, List.getElem?_set_ne (by decide)]; exact g3
  have ef6 : fs6 = [.ref q1, .ref q2, .ref q3, .ref q4, .ref q5, .ref q6, .null, .null, .null, .null, .null, .null, .null, .null, .null, .null, .null, .null, .null, .null, .null, .null, .null, .null, .null, .null, .null, .null, .null, .null, .null, .null, .null, .null, .null, .null, .null, .null, .null, .null, .null, .null, .int 0, .int 0, .int 0, .int 0, .int 0, .int 0, .int 0, .int 0, .int 0, .int 0, .int 0] := by rw [hf6, ef5]; rfl
  refine lv_aload_n hx hb d_Mod_init_49 rfl (lv_at hl 0 rfl) ?_
  refine lv_bipush (v := 8) hx hb d_Mod_init_50 (by decide) ?_
  refine va_newa (atype := .int) (ty := .int) (a0 := (8, .inl (fun _ => 0))) hx hb (B.2.2.2.2.1 _ ed_a0) rfl hK hP hD hS hA (fun _ => rfl) (by decide) (N' := 8) (by decide) (by decide) (Nat.le_of_ble_eq_true rfl) (Nat.le_of_ble_eq_true rfl) d_Mod_init_52 (fun q7 cA H hKn hP hD hS => ?_)
  have hce := ed_caE 0 hKn rfl
  subst hce
  clear hKn
  refine W.widen (k := 7) (n := 92) (by decide) (by decide) ?_
  obtain ⟨tl7, ht7⟩ : ∃ z : va_W, z = tl6 ++ [(q7, .inl (ca 0, 8, .inl (fun _ => 0)))] := ⟨_, rfl⟩
  have hm7 : tl7.length = 7 := by rw [ht7, List.length_append, hm6]; rfl
  have hP : va_P D vwCl ((h0, .inr (8, fs6)) :: tl7) H := by rw [ht7]; exact hP
  have hD : va_D A ((h0, .inr (8, fs6)) :: tl7) := by rw [ht7]; exact hD
  have hr7 : tl7[6]? = some (q7, .inl (ca 0, 8, .inl (fun _ => 0))) := by rw [ht7, List.getElem?_append_right (by rw [hm6]; decide), hm6]; rfl
  have v3 : tl7[3]? = some (q4, .inl (ca 0, 32, .inl (fun _ => 0))) := by rw [ht7, List.getElem?_append_left (by rw [hm6]; decide)]; exact v3
  have et7 : tl7 = [(q1, .inl (ca 0, 4, .inl (fun _ => 0))), (q2, .inl (ca 0, 4, .inl (fun _ => 0))), (q3, .inl (ca 0, 4, .inl (fun _ => 0))), (q4, .inl (ca 0, 32, .inl (fun _ => 0))), (q5, .inl (ca 0, 32, .inl (fun _ => 0))), (q6, .inl (ca 0, 8, .inl (fun _ => 0))), (q7, .inl (ca 0, 8, .inl (fun _ => 0)))] := by rw [ht7, et6]; rfl
  refine va_putF (D := D) (ci := 8) (v := .ref q7) (ty := .array .int) (C := "ExecutiveDeskModel") (T := T_Mod) (N := 53) hx hb B.2.2.2.2.1 iw_Mod ty_Mod tyok_Mod nm_Mod B.2.2.2.1 hK hP hD hS 0 rfl rfl 6 (by decide) (B.2.2.2.2.1 _ L_Mod_28) (fun _ h9 => h9) rfl B.2.2.2.2.2.2.2.2.1 rfl (by decide +kernel) rfl rfl (by rw [hn6]; decide) d_Mod_init_54 (fun H locs hP hD hS => ?_)
  obtain ⟨fs7, hf7⟩ : ∃ z : List Value, z = fs6.set 6 (.ref q7) := ⟨_, rfl⟩
  have hn7 : fs7.length = 53 := by rw [hf7, List.length_set]; exact hn6
  have hP : va_P D vwCl ((h0, .inr (8, fs7)) :: tl7) H := by rw [hf7]; exact hP
  have hD : va_D A ((h0, .inr (8, fs7)) :: tl7) := by rw [hf7]; exact hD
  have g3 : fs7[3]? = some (.ref q4) := by rw [hf7, List.getElem?_set_ne (by decide)]; exact g3
  have ef7 : fs7 = [.ref q1, .ref q2, .ref q3, .ref q4, .ref q5, .ref q6, .ref q7, .null, .null, .null, .null, .null, .null, .null, .null, .null, .null, .null, .null, .null, .null, .null, .null, .null, .null, .null, .null, .null, .null, .null, .null, .null, .null, .null, .null, .null, .null, .null, .null, .null, .null, .null, .int 0, .int 0, .int 0, .int 0, .int 0, .int 0, .int 0, .int 0, .int 0, .int 0, .int 0] := by rw [hf7, ef6]; rfl
  refine lv_aload_n hx hb d_Mod_init_57 rfl (lv_at hl 0 rfl) ?_
  refine lv_bipush (v := 8) hx hb d_Mod_init_58 (by decide) ?_
  refine va_newa (atype := .int) (ty := .int) (a0 := (8, .inl (fun _ => 0))) hx hb (B.2.2.2.2.1 _ ed_a0) rfl hK hP hD hS hA (fun _ => rfl) (by decide) (N' := 8) (by decide) (by decide) (Nat.le_of_ble_eq_true rfl) (Nat.le_of_ble_eq_true rfl) d_Mod_init_60 (fun q8 cA H hKn hP hD hS => ?_)
  have hce := ed_caE 0 hKn rfl
  subst hce
  clear hKn
  refine W.widen (k := 8) (n := 100) (by decide) (by decide) ?_
  obtain ⟨tl8, ht8⟩ : ∃ z : va_W, z = tl7 ++ [(q8, .inl (ca 0, 8, .inl (fun _ => 0)))] := ⟨_, rfl⟩
  have hm8 : tl8.length = 8 := by rw [ht8, List.length_append, hm7]; rfl
  have hP : va_P D vwCl ((h0, .inr (8, fs7)) :: tl8) H := by rw [ht8]; exact hP
  have hD : va_D A ((h0, .inr (8, fs7)) :: tl8) := by rw [ht8]; exact hD
  have hr8 : tl8[7]? = some (q8, .inl (ca 0, 8, .inl (fun _ => 0))) := by rw [ht8, List.getElem?_append_right (by rw [hm7]; decide), hm7]; rfl
  have v3 : tl8[3]? = some (q4, .inl (ca 0, 32, .inl (fun _ => 0))) := by rw [ht8, List.getElem?_append_left (by rw [hm7]; decide)]; exact v3
  have et8 : tl8 = [(q1, .inl (ca 0, 4, .inl (fun _ => 0))), (q2, .inl (ca 0, 4, .inl (fun _ => 0))), (q3, .inl (ca 0, 4, .inl (fun _ => 0))), (q4, .inl (ca 0, 32, .inl (fun _ => 0))), (q5, .inl (ca 0, 32, .inl (fun _ => 0))), (q6, .inl (ca 0, 8, .inl (fun _ => 0))), (q7, .inl (ca 0, 8, .inl (fun _ => 0))), (q8, .inl (ca 0, 8, .inl (fun _ => 0)))] := by rw [ht8, et7]; rfl
  refine va_putF (D := D) (ci := 8) (v := .ref q8) (ty := .array .int) (C := "ExecutiveDeskModel") (T := T_Mod) (N := 53) hx hb B.2.2.2.2.1 iw_Mod ty_Mod tyok_Mod nm_Mod B.2.2.2.1 hK hP hD hS 0 rfl rfl 7 (by decide) (B.2.2.2.2.1 _ L_Mod_31) (fun _ h9 => h9) rfl B.2.2.2.2.2.2.2.2.1 rfl (by decide +kernel) rfl rfl (by rw [hn7]; decide) d_Mod_init_62 (fun H locs hP hD hS => ?_)
  obtain ⟨fs8, hf8⟩ : ∃ z : List Value, z = fs7.set 7 (.ref q8) := ⟨_, rfl⟩
  have hn8 : fs8.length = 53 := by rw [hf8, List.length_set]; exact hn7
  have hP : va_P D vwCl ((h0, .inr (8, fs8)) :: tl8) H := by rw [hf8]; exact hP
  have hD : va_D A ((h0, .inr (8, fs8)) :: tl8) := by rw [hf8]; exact hD
  have g3 : fs8[3]? = some (.ref q4) := by rw [hf8, List.getElem?_set_ne (by decide)]; exact g3
  have ef8 : fs8 = [.ref q1, .ref q2, .ref q3, .ref q4, .ref q5, .ref q6, .ref q7, .ref q8, .null, .null, .null, .null, .null, .null, .null, .null, .null, .null, .null, .null, .null, .null, .null, .null, .null, .null, .null, .null, .null, .null, .null, .null, .null, .null, .null, .null, .null, .null, .null, .null, .null, .null, .int 0, .int 0, .int 0, .int 0, .int 0, .int 0, .int 0, .int 0, .int 0, .int 0, .int 0] := by rw [hf8, ef7]; rfl
  refine lv_aload_n hx hb d_Mod_init_65 rfl (lv_at hl 0 rfl) ?_
  refine lv_bipush (v := 8) hx hb d_Mod_init_66 (by decide) ?_
  refine va_newa (atype := .int) (ty := .int) (a0 := (8, .inl (fun _ => 0))) hx hb (B.2.2.2.2.1 _ ed_a0) rfl hK hP hD hS hA (fun _ => rfl) (by decide) (N' := 8) (by decide) (by decide) (Nat.le_of_ble_eq_true rfl) (Nat.le_of_ble_eq_true rfl) d_Mod_init_68 (fun q9 cA H hKn hP hD hS => ?_)
  have hce := ed_caE 0 hKn rfl
  subst hce
  clear hKn
  refine W.widen (k := 9) (n := 108) (by decide) (by decide) ?_
  obtain ⟨tl9, ht9⟩ : ∃ z : va_W, z = tl8 ++ [(q9, .inl (ca 0, 8, .inl (fun _ => 0)))] := ⟨_, rfl⟩
  have hm9 : tl9.length = 9 := by rw [ht9, List.length_append, hm8]; rfl
  have hP : va_P D vwCl ((h0, .inr (8, fs8)) :: tl9) H := by rw [ht9]; exact hP
  have hD : va_D A ((h0, .inr (8, fs8)) :: tl9) := by rw [ht9]; exact hD
  have hr9 : tl9[8]? = some (q9, .inl (ca 0, 8, .inl (fun _ => 0))) := by rw [ht9, List.getElem?_append_right (by rw [hm8]; decide), hm8]; rfl
  have v3 : tl9[3]? = some (q4, .inl (ca 0, 32, .inl (fun _ => 0))) := by rw [ht9, List.getElem?_append_left (by rw [hm8]; decide)]; exact v3
  have et9 : tl9 = [(q1, .inl (ca 0, 4, .inl (fun _ => 0))), (q2, .inl (ca 0, 4, .inl (fun _ => 0))), (q3, .inl (ca 0, 4, .inl (fun _ => 0))), (q4, .inl (ca 0, 32, .inl (fun _ => 0))), (q5, .inl (ca 0, 32, .inl (fun _ => 0))), (q6, .inl (ca 0, 8, .inl (fun _ => 0))), (q7, .inl (ca 0, 8, .inl (fun _ => 0))), (q8, .inl (ca 0, 8, .inl (fun _ => 0))), (q9, .inl (ca 0, 8, .inl (fun _ => 0)))] := by rw [ht9, et8]; rfl
  refine va_putF (D := D) (ci := 8) (v := .ref q9) (ty := .array .int) (C := "ExecutiveDeskModel") (T := T_Mod) (N := 53) hx hb B.2.2.2.2.1 iw_Mod ty_Mod tyok_Mod nm_Mod B.2.2.2.1 hK hP hD hS 0 rfl rfl 8 (by decide) (B.2.2.2.2.1 _ L_Mod_34) (fun _ h9 => h9) rfl B.2.2.2.2.2.2.2.2.1 rfl (by decide +kernel) rfl rfl (by rw [hn8]; decide) d_Mod_init_70 (fun H locs hP hD hS => ?_)
  obtain ⟨fs9, hf9⟩ : ∃ z : List Value, z = fs8.set 8 (.ref q9) := ⟨_, rfl⟩
  have hn9 : fs9.length = 53 := by rw [hf9, List.length_set]; exact hn8
  have hP : va_P D vwCl ((h0, .inr (8, fs9)) :: tl9) H := by rw [hf9]; exact hP
  have hD : va_D A ((h0, .inr (8, fs9)) :: tl9) := by rw [hf9]; exact hD
  have g3 : fs9[3]? = some (.ref q4) := by rw [hf9, List.getElem?_set_ne (by decide)]; exact g3
  have ef9 : fs9 = [.ref q1, .ref q2, .ref q3, .ref q4, .ref q5, .ref q6, .ref q7, .ref q8, .ref q9, .null, .null, .null, .null, .null, .null, .null, .null, .null, .null, .null, .null, .null, .null, .null, .null, .null, .null, .null, .null, .null, .null, .null, .null, .null, .null, .null, .null, .null, .null, .null, .null, .null, .int 0, .int 0, .int 0, .int 0, .int 0, .int 0, .int 0, .int 0, .int 0, .int 0, .int 0] := by rw [hf9, ef8]; rfl
  refine lv_aload_n hx hb d_Mod_init_73 rfl (lv_at hl 0 rfl) ?_
  refine lv_bipush (v := 8) hx hb d_Mod_init_74 (by decide) ?_
  refine va_newa (atype := .int) (ty := .int) (a0 := (8, .inl (fun _ => 0))) hx hb (B.2.2.2.2.1 _ ed_a0) rfl hK hP hD hS hA (fun _ => rfl) (by decide) (N' := 8) (by decide) (by decide) (Nat.le_of_ble_eq_true rfl) (Nat.le_of_ble_eq_true rfl) d_Mod_init_76 (fun q10 cA H hKn hP hD hS => ?_)
  have hce := ed_caE 0 hKn rfl
  subst hce
  clear hKn
  refine W.widen (k := 10) (n := 116) (by decide) (by decide) ?_
  obtain ⟨tl10, ht10⟩ : ∃ z : va_W, z = tl9 ++ [(q10, .inl (ca 0, 8, .inl (fun _ => 0)))] := ⟨_, rfl⟩
  have hm10 : tl10.length = 10 := by rw [ht10, List.length_append, hm9]; rfl
  have hP : va_P D vwCl ((h0, .inr (8, fs9)) :: tl10) H := by rw [ht10]; exact hP
  have hD : va_D A ((h0, .inr (8, fs9)) :: tl10) := by rw [ht10]; exact hD
  have hr10 : tl10[9]? = some (q10, .inl (ca 0, 8, .inl (fun _ => 0))) := by rw [ht10, List.getElem?_append_right (by rw [hm9]; decide), hm9]; rfl
  have v3 : tl10[3]? = some (q4, .inl (ca 0, 32, .inl (fun _ => 0))) := by rw [ht10, List.getElem?_append_left (by rw [hm9]; decide)]; exact v3
  have et10 : tl10 = [(q1, .inl (ca 0, 4, .inl (fun _ => 0))), (q2, .inl (ca 0, 4, .inl (fun _ => 0))), (q3, .inl (ca 0, 4, .inl (fun _ => 0))), (q4, .inl (ca 0, 32, .inl (fun _ => 0))), (q5, .inl (ca 0, 32, .inl (fun _ => 0))), (q6, .inl (ca 0, 8, .inl (fun _ => 0))), (q7, .inl (ca 0, 8, .inl (fun _ => 0))), (q8, .inl (ca 0, 8, .inl (fun _ => 0))), (q9, .inl (ca 0, 8, .inl (fun _ => 0))), (q10, .inl (ca 0, 8, .inl (fun _ => 0)))] := by rw [ht10, et9]; rfl
  refine va_putF (D := D) (ci := 8) (v := .ref q10) (ty := .array .int) (C := "ExecutiveDeskModel") (T := T_Mod) (N := 53) hx hb B.2.2.2.2.1 iw_Mod ty_Mod tyok_Mod nm_Mod B.2.2.2.1 hK hP hD hS 0 rfl rfl 9 (by decide) (B.2.2.2.2.1 _ L_Mod_37) (fun _ h9 => h9) rfl B.2.2.2.2.2.2.2.2.1 rfl (by decide +kernel) rfl rfl (by rw [hn9]; decide) d_Mod_init_78 (fun H locs hP hD hS => ?_)
  obtain ⟨fs10, hf10⟩ : ∃ z : List Value, z = fs9.set 9 (.ref q10) := ⟨_, rfl⟩
  have hn10 : fs10.length = 53 := by rw [hf10, List.length_set]; exact hn9
  have hP : va_P D vwCl ((h0, .inr (8, fs10)) :: tl10) H := by rw [hf10]; exact hP
  have hD : va_D A ((h0, .inr (8, fs10)) :: tl10) := by rw [hf10]; exact hD
  have g3 : fs10[3]? = some (.ref q4) := by rw [hf10, List.getElem?_set_ne (by decide)]; exact g3
  have ef10 : fs10 = [.ref q1, .ref q2, .ref q3, .ref q4, .ref q5, .ref q6, .ref q7, .ref q8, .ref q9, .ref q10, .null, .null, .null, .null, .null, .null, .null, .null, .null, .null, .null, .null, .null, .null, .null, .null, .null, .null, .null, .null, .null, .null, .null, .null, .null, .null, .null, .null, .null, .null, .null, .null, .int 0, .int 0, .int 0, .int 0, .int 0, .int 0, .int 0, .int 0, .int 0, .int 0, .int 0] := by rw [hf10, ef9]; rfl
  refine lv_aload_n hx hb d_Mod_init_81 rfl (lv_at hl 0 rfl) ?_
  refine lv_bipush (v := 8) hx hb d_Mod_init_82 (by decide) ?_
  refine va_newa (atype := .int) (ty := .int) (a0 := (8, .inl (fun _ => 0))) hx hb (B.2.2.2.2.1 _ ed_a0) rfl hK hP hD hS hA (fun _ => rfl) (by decide) (N' := 8) (by decide) (by decide) (Nat.le_of_ble_eq_true rfl) (Nat.le_of_ble_eq_true rfl) d_Mod_init_84 (fun q11 cA H hKn hP hD hS => ?_)
  have hce := ed_caE 0 hKn rfl
  subst hce
  clear hKn
  refine W.widen (k := 11) (n := 124) (by decide) (by decide) ?_
  obtain ⟨tl11, ht11⟩ : ∃ z : va_W, z = tl10 ++ [(q11, .inl (ca 0, 8, .inl (fun _ => 0)))] := ⟨_, rfl⟩
  have hm11 : tl11.length = 11 := by rw [ht11, List.length_append, hm10]; rfl
  have hP : va_P D vwCl ((h0, .inr (8, fs10)) :: tl11) H := by rw [ht11]; exact hP
  have hD : va_D A ((h0, .inr (8, fs10)) :: tl11) := by rw [ht11]; exact hD
  have hr11 : tl11[10]? = some (q11, .inl (ca 0, 8, .inl (fun _ => 0))) := by rw [ht11, List.getElem?_append_right (by rw [hm10]; decide), hm10]; rfl
  have v3 : tl11[3]? = some (q4, .inl (ca 0, 32, .inl (fun _ => 0))) := by rw [ht11, List.getElem?_append_left (by rw [hm10]; decide)]; exact v3
  have et11 : tl11 = [(q1, .inl (ca 0, 4, .inl (fun _ => 0))), (q2, .inl (ca 0, 4, .inl (fun _ => 0))), (q3, .inl (ca 0, 4, .inl (fun _ => 0))), (q4, .inl (ca 0, 32, .inl (fun _ => 0))), (q5, .inl (ca 0, 32, .inl (fun _ => 0))), (q6, .inl (ca 0, 8, .inl (fun _ => 0))), (q7, .inl (ca 0, 8, .inl (fun _ => 0))), (q8, .inl (ca 0, 8, .inl (fun _ => 0))), (q9, .inl (ca 0, 8, .inl (fun _ => 0))), (q10, .inl (ca 0, 8, .inl (fun _ => 0))), (q11, .inl (ca 0, 8, .inl (fun _ => 0)))] := by rw [ht11, et10]; rfl
  refine va_putF (D := D) (ci := 8) (v := .ref q11) (ty := .array .int) (C := "ExecutiveDeskModel") (T := T_Mod) (N := 53) hx hb B.2.2.2.2.1 iw_Mod ty_Mod tyok_Mod nm_Mod B.2.2.2.1 hK hP hD hS 0 rfl rfl 10 (by decide) (B.2.2.2.2.1 _ L_Mod_40) (fun _ h9 => h9) rfl B.2.2.2.2.2.2.2.2.1 rfl (by decide +kernel) rfl rfl (by rw [hn10]; decide) d_Mod_init_86 (fun H locs hP hD hS => ?_)
  obtain ⟨fs11, hf11⟩ : ∃ z : List Value, z = fs10.set 10 (.ref q11) := ⟨_, rfl⟩
  have hn11 : fs11.length = 53 := by rw [hf11, List.length_set]; exact hn10
  have hP : va_P D vwCl ((h0, .inr (8, fs11)) :: tl11) H := by rw [hf11]; exact hP
  have hD : va_D A ((h0, .inr (8, fs11)) :: tl11) := by rw [hf11]; exact hD
  have g3 : fs11[3]? = some (.ref q4) := by rw [hf11, List.getElem?_set_ne (by decide)]; exact g3
  have ef11 : fs11 = [.ref q1, .ref q2, .ref q3, .ref q4, .ref q5, .ref q6, .ref q7, .ref q8, .ref q9, .ref q10, .ref q11, .null, .null, .null, .null, .null, .null, .null, .null, .null, .null, .null, .null, .null, .null, .null, .null, .null, .null, .null, .null, .null, .null, .null, .null, .null, .null, .null, .null, .null, .null, .null, .int 0, .int 0, .int 0, .int 0, .int 0, .int 0, .int 0, .int 0, .int 0, .int 0, .int 0] := by rw [hf11, ef10]; rfl
  refine lv_aload_n hx hb d_Mod_init_89 rfl (lv_at hl 0 rfl) ?_
  refine lv_bipush (v := 8) hx hb d_Mod_init_90 (by decide) ?_
  refine va_newa (atype := .int) (ty := .int) (a0 := (8, .inl (fun _ => 0))) hx hb (B.2.2.2.2.1 _ ed_a0) rfl hK hP hD hS hA (fun _ => rfl) (by decide) (N' := 8) (by decide) (by decide) (Nat.le_of_ble_eq_true rfl) (Nat.le_of_ble_eq_true rfl) d_Mod_init_92 (fun q12 cA H hKn hP hD hS => ?_)
  have hce := ed_caE 0 hKn rfl
  subst hce
  clear hKn
  refine W.widen (k := 12) (n := 132) (by decide) (by decide) ?_
  obtain ⟨tl12, ht12⟩ : ∃ z : va_W, z = tl11 ++ [(q12, .inl (ca 0, 8, .inl (fun _ => 0)))] := ⟨_, rfl⟩
  have hm12 : tl12.length = 12 := by rw [ht12, List.length_append, hm11]; rfl
  have hP : va_P D vwCl ((h0, .inr (8, fs11)) :: tl12) H := by rw [ht12]; exact hP
  have hD : va_D A ((h0, .inr (8, fs11)) :: tl12) := by rw [ht12]; exact hD
  have hr12 : tl12[11]? = some (q12, .inl (ca 0, 8, .inl (fun _ => 0))) := by rw [ht12, List.getElem?_append_right (by rw [hm11]; decide), hm11]; rfl
  have v3 : tl12[3]? = some (q4, .inl (ca 0, 32, .inl (fun _ => 0))) := by rw [ht12, List.getElem?_append_left (by rw [hm11]; decide)]; exact v3
  have et12 : tl12 = [(q1, .inl (ca 0, 4, .inl (fun _ => 0))), (q2, .inl (ca 0, 4, .inl (fun _ => 0))), (q3, .inl (ca 0, 4, .inl (fun _ => 0))), (q4, .inl (ca 0, 32, .inl (fun _ => 0))), (q5, .inl (ca 0, 32, .inl (fun _ => 0))), (q6, .inl (ca 0, 8, .inl (fun _ => 0))), (q7, .inl (ca 0, 8, .inl (fun _ => 0))), (q8, .inl (ca 0, 8, .inl (fun _ => 0))), (q9, .inl (ca 0, 8, .inl (fun _ => 0))), (q10, .inl (ca 0, 8, .inl (fun _ => 0))), (q11, .inl (ca 0, 8, .inl (fun _ => 0))), (q12, .inl (ca 0, 8, .inl (fun _ => 0)))] := by rw [ht12, et11]; rfl
  refine va_putF (D := D) (ci := 8) (v := .ref q12) (ty := .array .int) (C := "ExecutiveDeskModel") (T := T_Mod) (N := 53) hx hb B.2.2.2.2.1 iw_Mod ty_Mod tyok_Mod nm_Mod B.2.2.2.1 hK hP hD hS 0 rfl rfl 11 (by decide) (B.2.2.2.2.1 _ L_Mod_43) (fun _ h9 => h9) rfl B.2.2.2.2.2.2.2.2.1 rfl (by decide +kernel) rfl rfl (by rw [hn11]; decide) d_Mod_init_94 (fun H locs hP hD hS => ?_)
  obtain ⟨fs12, hf12⟩ : ∃ z : List Value, z = fs11.set 11 (.ref q12) := ⟨_, rfl⟩
  have hn12 : fs12.length = 53 := by rw [hf12, List.length_set]; exact hn11
  have hP : va_P D vwCl ((h0, .inr (8, fs12)) :: tl12) H := by rw [hf12]; exact hP
  have hD : va_D A ((h0, .inr (8, fs12)) :: tl12) := by rw [hf12]; exact hD
  have g3 : fs12[3]? = some (.ref q4) := by rw [hf12, List.getElem?_set_ne (by decide)]; exact g3
  have ef12 : fs12 = [.ref q1, .ref q2, .ref q3, .ref q4, .ref q5, .ref q6, .ref q7, .ref q8, .ref q9, .ref q10, .ref q11, .ref q12, .null, .null, .null, .null, .null, .null, .null, .null, .null, .null, .null, .null, .null, .null, .null, .null, .null, .null, .null, .null, .null, .null, .null, .null, .null, .null, .null, .null, .null, .null, .int 0, .int 0, .int 0, .int 0, .int 0, .int 0, .int 0, .int 0, .int 0, .int 0, .int 0] := by rw [hf12, ef11]; rfl
  refine lv_aload_n hx hb d_Mod_init_97 rfl (lv_at hl 0 rfl) ?_
  refine lv_bipush (v := 8) hx hb d_Mod_init_98 (by decide) ?_
  refine va_newa (atype := .int) (ty := .int) (a0 := (8, .inl (fun _ => 0))) hx hb (B.2.2.2.2.1 _ ed_a0) rfl hK hP hD hS hA (fun _ => rfl) (by decide) (N' := 8) (by decide) (by decide) (Nat.le_of_ble_eq_true rfl) (Nat.le_of_ble_eq_true rfl) d_Mod_init_100 (fun q13 cA H hKn hP hD hS => ?_)
  have hce := ed_caE 0 hKn rfl
  subst hce
  clear hKn
  refine W.widen (k := 13) (n := 140) (by decide) (by decide) ?_
  obtain ⟨tl13, ht13⟩ : ∃ z : va_W, z = tl12 ++ [(q13, .inl (ca 0, 8, .inl (fun _ => 0)))] := ⟨_, rfl⟩
  have hm13 : tl13.length = 13 := by rw [ht13, List.length_append, hm12]; rfl
  have hP : va_P D vwCl ((h0, .inr (8, fs12)) :: tl13) H := by rw [ht13]; exact hP
  have hD : va_D A ((h0, .inr (8, fs12)) :: tl13) := by rw [ht13]; exact hD
  have hr13 : tl13[12]? = some (q13, .inl (ca 0, 8, .inl (fun _ => 0))) := by rw [ht13, List.getElem?_append_right (by rw [hm12]; decide), hm12]; rfl
  have v3 : tl13[3]? = some (q4, .inl (ca 0, 32, .inl (fun _ => 0))) := by rw [ht13, List.getElem?_append_left (by rw [hm12]; decide)]; exact v3
  have et13 : tl13 = [(q1, .inl (ca 0, 4, .inl (fun _ => 0))), (q2, .inl (ca 0, 4, .inl (fun _ => 0))), (q3, .inl (ca 0, 4, .inl (fun _ => 0))), (q4, .inl (ca 0, 32, .inl (fun _ => 0))), (q5, .inl (ca 0, 32, .inl (fun _ => 0))), (q6, .inl (ca 0, 8, .inl (fun _ => 0))), (q7, .inl (ca 0, 8, .inl (fun _ => 0))), (q8, .inl (ca 0, 8, .inl (fun _ => 0))), (q9, .inl (ca 0, 8, .inl (fun _ => 0))), (q10, .inl (ca 0, 8, .inl (fun _ => 0))), (q11, .inl (ca 0, 8, .inl (fun _ => 0))), (q12, .inl (ca 0, 8, .inl (fun _ => 0))), (q13, .inl (ca 0, 8, .inl (fun _ => 0)))] := by rw [ht13, et12]; rfl
  refine va_putF (D := D) (ci := 8) (v := .ref q13) (ty := .array .int) (C := "ExecutiveDeskModel") (T := T_Mod) (N := 53) hx hb B.2.2.2.2.1 iw_Mod ty_Mod tyok_Mod nm_Mod B.2.2.2.1 hK hP hD hS 0 rfl rfl 12 (by decide) (B.2.2.2.2.1 _ L_Mod_46) (fun _ h9 => h9) rfl B.2.2.2.2.2.2.2.2.1 rfl (by decide +kernel) rfl rfl (by rw [hn12]; decide) d_Mod_init_102 (fun H locs hP hD hS => ?_)
  obtain ⟨fs13, hf13⟩ : ∃ z : List Value, z = fs12.set 12 (.ref q13) := ⟨_, rfl⟩
  have hn13 : fs13.length = 53 := by rw [hf13, List.length_set]; exact hn12
  have hP : va_P D vwCl ((h0, .inr (8, fs13)) :: tl13) H := by rw [hf13]; exact hP
  have hD : va_D A ((h0, .inr (8, fs13)) :: tl13) := by rw [hf13]; exact hD
  have g3 : fs13[3]? = some (.ref q4) := by rw [hf13, List.getElem?_set_ne (by decide)]; exact g3
  have ef13 : fs13 = [.ref q1, .ref q2, .ref q3, .ref q4, .ref q5, .ref q6, .ref q7, .ref q8, .ref q9, .ref q10, .ref q11, .ref q12, .ref q13, .null, .null, .null, .null, .null, .null, .null, .null, .null, .null, .null, .null, .null, .null, .null, .null, .null, .null, .null, .null, .null, .null, .null, .null, .null, .null, .null, .null, .null, .int 0, .int 0, .int 0, .int 0, .int 0, .int 0, .int 0, .int 0, .int 0, .int 0, .int 0] := by rw [hf13, ef12]; rfl
  refine lv_aload_n hx hb d_Mod_init_105 rfl (lv_at hl 0 rfl) ?_
  refine lv_bipush (v := 8) hx hb d_Mod_init_106 (by decide) ?_
  refine va_newa (atype := .int) (ty := .int) (a0 := (8, .inl (fun _ => 0))) hx hb (B.2.2.2.2.1 _ ed_a0) rfl hK hP hD hS hA (fun _ => rfl) (by decide) (N' := 8) (by decide) (by decide) (Nat.le_of_ble_eq_true rfl) (Nat.le_of_ble_eq_true rfl) d_Mod_init_108 (fun q14 cA H hKn hP hD hS => ?_)
  have hce := ed_caE 0 hKn rfl
  subst hce
  clear hKn
  refine W.widen (k := 14) (n := 148) (by decide) (by decide) ?_
  obtain ⟨tl14, ht14⟩ : ∃ z : va_W, z = tl13 ++ [(q14, .inl (ca 0, 8, .inl (fun _ => 0)))] := ⟨_, rfl⟩
  have hm14 : tl14.length = 14 := by rw [ht14, List.length_append, hm13]; rfl
  have hP : va_P D vwCl ((h0, .inr (8, fs13)) :: tl14) H := by rw [ht14]; exact hP
  have hD : va_D A ((h0, .inr (8, fs13)) :: tl14) := by rw [ht14]; exact hD
  have hr14 : tl14[13]? = some (q14, .inl (ca 0, 8, .inl (fun _ => 0))) := by rw [ht14, List.getElem?_append_right (by rw [hm13]; decide), hm13]; rfl
  have v3 : tl14[3]? = some (q4, .inl (ca 0, 32, .inl (fun _ => 0))) := by rw [ht14, List.getElem?_append_left (by rw [hm13]; decide)]; exact v3
  have et14 : tl14 = [(q1, .inl (ca 0, 4, .inl (fun _ => 0))), (q2, .inl (ca 0, 4, .inl (fun _ => 0))), (q3, .inl (ca 0, 4, .inl (fun _ => 0))), (q4, .inl (ca 0, 32, .inl (fun _ => 0))), (q5, .inl (ca 0, 32, .inl (fun _ => 0))), (q6, .inl (ca 0, 8, .inl (fun _ => 0))), (q7, .inl (ca 0, 8, .inl (fun _ => 0))), (q8, .inl (ca 0, 8, .inl (fun _ => 0))), (q9, .inl (ca 0, 8, .inl (fun _ => 0))), (q10, .inl (ca 0, 8, .inl (fun _ => 0))), (q11, .inl (ca 0, 8, .inl (fun _ => 0))), (q12, .inl (ca 0, 8, .inl (fun _ => 0))), (q13, .inl (ca 0, 8, .inl (fun _ => 0))), (q14, .inl (ca 0, 8, .inl (fun _ => 0)))] := by rw [ht14, et13]; rfl
  refine va_putF (D := D) (ci := 8) (v := .ref q14) (ty := .array .int) (C := "ExecutiveDeskModel") (T := T_Mod) (N := 53) hx hb B.2.2.2.2.1 iw_Mod ty_Mod tyok_Mod nm_Mod B.2.2.2.1 hK hP hD hS 0 rfl rfl 13 (by decide) (B.2.2.2.2.1 _ L_Mod_49) (fun _ h9 => h9) rfl B.2.2.2.2.2.2.2.2.1 rfl (by decide +kernel) rfl rfl (by rw [hn13]; decide) d_Mod_init_110 (fun H locs hP hD hS => ?_)
  obtain ⟨fs14, hf14⟩ : ∃ z : List Value, z = fs13.set 13 (.ref q14) := ⟨_, rfl⟩
  have hn14 : fs14.length = 53 := by rw [hf14, List.length_set]; exact hn13
  have hP : va_P D vwCl ((h0, .inr (8, fs14)) :: tl14) H := by rw [hf14]; exact hP
  have hD : va_D A ((h0, .inr (8, fs14)) :: tl14) := by rw [hf14]; exact hD
  have g3 : fs14[3]? = some (.ref q4) := by rw [hf14, List.getElem?_set_ne (by decide)]; exact g3
  have ef14 : fs14 = [.ref q1, .ref q2, .ref q3, .ref q4, .ref q5, .ref q6, .ref q7, .ref q8, .ref q9, .ref q10, .ref q11, .ref q12, .ref q13, .ref q14, .null, .null, .null, .null, .null, .null, .null, .null, .null, .null, .null, .null, .null, .null, .null, .null, .null, .null, .null, .null, .null, .null, .null, .null, .null, .null, .null, .null, .int 0, .int 0, .int 0, .int 0, .int 0, .int 0, .int 0, .int 0, .int 0, .int 0, .int 0] := by rw [hf14, ef13]; rfl
  refine lv_aload_n hx hb d_Mod_init_113 rfl (lv_at hl 0 rfl) ?_
  refine lv_bipush (v := 8) hx hb d_Mod_init_114 (by decide) ?_
  refine va_newa (atype := .int) (ty := .int) (a0 := (8, .inl (fun _ => 0))) hx hb (B.2.2.2.2.1 _ ed_a0) rfl hK hP hD hS hA (fun _ => rfl) (by decide) (N' := 8) (by decide) (by decide) (Nat.le_of_ble_eq_true rfl) (Nat.le_of_ble_eq_true rfl) d_Mod_init_116 (fun q15 cA H hKn hP hD hS => ?_)
  have hce := ed_caE 0 hKn rfl
  subst hce
  clear hKn
  refine W.widen (k := 15) (n := 156) (by decide) (by decide) ?_
  obtain ⟨tl15, ht15⟩ : ∃ z : va_W, z = tl14 ++ [(q15, .inl (ca 0, 8, .inl (fun _ => 0)))] := ⟨_, rfl⟩
  have hm15 : tl15.length = 15 := by rw [ht15, List.length_append, hm14]; rfl
  have hP : va_P D vwCl ((h0, .inr (8, fs14)) :: tl15) H := by rw [ht15]; exact hP
  have hD : va_D A ((h0, .inr (8, fs14)) :: tl15) := by rw [ht15]; exact hD
  have hr15 : tl15[14]? = some (q15, .inl (ca 0, 8, .inl (fun _ => 0))) := by rw [ht15, List.getElem?_append_right (by rw [hm14]; decide), hm14]; rfl
  have v3 : tl15[3]? = some (q4, .inl (ca 0, 32, .inl (fun _ => 0))) := by rw [ht15, List.getElem?_append_left (by rw [hm14]; decide)]; exact v3
  have et15 : tl15 = [(q1, .inl (ca 0, 4, .inl (fun _ => 0))), (q2, .inl (ca 0, 4, .inl (fun _ => 0))), (q3, .inl (ca 0, 4, .inl (fun _ => 0))), (q4, .inl (ca 0, 32, .inl (fun _ => 0))), (q5, .inl (ca 0, 32, .inl (fun _ => 0))), (q6, .inl (ca 0, 8, .inl (fun _ => 0))), (q7, .inl (ca 0, 8, .inl (fun _ => 0))), (q8, .inl (ca 0, 8, .inl (fun _ => 0))), (q9, .inl (ca 0, 8, .inl (fun _ => 0))), (q10, .inl (ca 0, 8, .inl (fun _ => 0))), (q11, .inl (ca 0, 8, .inl (fun _ => 0))), (q12, .inl (ca 0, 8, .inl (fun _ => 0))), (q13, .inl (ca 0, 8, .inl (fun _ => 0))), (q14, .inl (ca 0, 8, .inl (fun _ => 0))), (q15, .inl (ca 0, 8, .inl (fun _ => 0)))] := by rw [ht15, et14]; rfl
  refine va_putF (D := D) (ci := 8) (v := .ref q15) (ty := .array .int) (C := "ExecutiveDeskModel") (T := T_Mod) (N := 53) hx hb B.2.2.2.2.1 iw_Mod ty_Mod tyok_Mod nm_Mod B.2.2.2.1 hK hP hD hS 0 rfl rfl 14 (by decide) (B.2.2.2.2.1 _ L_Mod_52) (fun _ h9 => h9) rfl B.2.2.2.2.2.2.2.2.1 rfl (by decide +kernel) rfl rfl (by rw [hn14]; decide) d_Mod_init_118 (fun H locs hP hD hS => ?_)
  obtain ⟨fs15, hf15⟩ : ∃ z : List Value, z = fs14.set 14 (.ref q15) := ⟨_, rfl⟩
  have hn15 : fs15.length = 53 := by rw [hf15, List.length_set]; exact hn14
  have hP : va_P D vwCl ((h0, .inr (8, fs15)) :: tl15) H := by rw [hf15]; exact hP
  have hD : va_D A ((h0, .inr (8, fs15)) :: tl15) := by rw [hf15]; exact hD
  have g3 : fs15[3]? = some (.ref q4) := by rw [hf15, List.getElem?_set_ne (by decide)]; exact g3
  have ef15 : fs15 = [.ref q1, .ref q2, .ref q3, .ref q4, .ref q5, .ref q6, .ref q7, .ref q8, .ref q9, .ref q10, .ref q11, .ref q12, .ref q13, .ref q14, .ref q15, .null, .null, .null, .null, .null, .null, .null, .null, .null, .null, .null, .null, .null, .null, .null, .null, .null, .null, .null, .null, .null, .null, .null, .null, .null, .null, .null, .int 0, .int 0, .int 0, .int 0, .int 0, .int 0, .int 0, .int 0, .int 0, .int 0, .int 0] := by rw [hf15, ef14]; rfl
  refine lv_aload_n hx hb d_Mod_init_121 rfl (lv_at hl 0 rfl) ?_
  refine lv_bipush (v := 8) hx hb d_Mod_init_122 (by decide) ?_
  refine va_newa (atype := .int) (ty := .int) (a0 := (8, .inl (fun _ => 0))) hx hb (B.2.2.2.2.1 _ ed_a0) rfl hK hP hD hS hA (fun _ => rfl) (by decide) (N' := 8) (by decide) (by decide) (Nat.le_of_ble_eq_true rfl) (Nat.le_of_ble_eq_true rfl) d_Mod_init_124 (fun q16 cA H hKn hP hD hS => ?_)
  have hce := ed_caE 0 hKn rfl
  subst hce
  clear hKn
  refine W.widen (k := 16) (n := 164) (by decide) (by decide) ?_
  obtain ⟨tl16, ht16⟩ : ∃ z : va_W, z = tl15 ++ [(q16, .inl (ca 0, 8, .inl (fun _ => 0)))] := ⟨_, rfl⟩
  have hm16 : tl16.length = 16 := by rw [ht16, List.length_append, hm15]; rfl
  have hP : va_P D vwCl ((h0, .inr (8, fs15)) :: tl16) H := by rw [ht16]; exact hP
  have hD : va_D A ((h0, .inr (8, fs15)) :: tl16) := by rw [ht16]; exact hD
  have hr16 : tl16[15]? = some (q16, .inl (ca 0, 8, .inl (fun _ => 0))) := by rw [ht16, List.getElem?_append_right (by rw [hm15]; decide), hm15]; rfl
  have v3 : tl16[3]? = some (q4, .inl (ca 0, 32, .inl (fun _ => 0))) := by rw [ht16, List.getElem?_append_left (by rw [hm15]; decide)]; exact v3
  have et16 : tl16 = [(q1, .inl (ca 0, 4, .inl (fun _ => 0))), (q2, .inl (ca 0, 4, .inl (fun _ => 0))), (q3, .inl (ca 0, 4, .inl (fun _ => 0))), (q4, .inl (ca 0, 32, .inl (fun _ => 0))), (q5, .inl (ca 0, 32, .inl (fun _ => 0))), (q6, .inl (ca 0, 8, .inl (fun _ => 0))), (q7, .inl (ca 0, 8, .inl (fun _ => 0))), (q8, .inl (ca 0, 8, .inl (fun _ => 0))), (q9, .inl (ca 0, 8, .inl (fun _ => 0))), (q10, .inl (ca 0, 8, .inl (fun _ => 0))), (q11, .inl (ca 0, 8, .inl (fun _ => 0))), (q12, .inl (ca 0, 8, .inl (fun _ => 0))), (q13, .inl (ca 0, 8, .inl (fun _ => 0))), (q14, .inl (ca 0, 8, .inl (fun _ => 0))), (q15, .inl (ca 0, 8, .inl (fun _ => 0))), (q16, .inl (ca 0, 8, .inl (fun _ => 0)))] := by rw [ht16, et15]; rfl
  refine va_putF (D := D) (ci := 8) (v := .ref q16) (ty := .array .int) (C := "ExecutiveDeskModel") (T := T_Mod) (N := 53) hx hb B.2.2.2.2.1 iw_Mod ty_Mod tyok_Mod nm_Mod B.2.2.2.1 hK hP hD hS 0 rfl rfl 15 (by decide) (B.2.2.2.2.1 _ L_Mod_55) (fun _ h9 => h9) rfl B.2.2.2.2.2.2.2.2.1 rfl (by decide +kernel) rfl rfl (by rw [hn15]; decide) d_Mod_init_126 (fun H locs hP hD hS => ?_)
  obtain ⟨fs16, hf16⟩ : ∃ z : List Value, z = fs15.set 15 (.ref q16) := ⟨_, rfl⟩
  have hn16 : fs16.length = 53 := by rw [hf16, List.length_set]; exact hn15
  have hP : va_P D vwCl ((h0, .inr (8, fs16)) :: tl16) H := by rw [hf16]; exact hP
  have hD : va_D A ((h0, .inr (8, fs16)) :: tl16) := by rw [hf16]; exact hD
  have g3 : fs16[3]? = some (.ref q4) := by rw [hf16, List.getElem?_set_ne (by decide)]; exact g3
  have ef16 : fs16 = [.ref q1, .ref q2, .ref q3, .ref q4, .ref q5, .ref q6, .ref q7, .ref q8, .ref q9, .ref q10, .ref q11, .ref q12, .ref q13, .ref q14, .ref q15, .ref q16, .null, .null, .null, .null, .null, .null, .null, .null, .null, .null, .null, .null, .null, .null, .null, .null, .null, .null, .null, .null, .null, .null, .null, .null, .null, .null, .int 0, .int 0, .int 0, .int 0, .int 0, .int 0, .int 0, .int 0, .int 0, .int 0, .int 0] := by rw [hf16, ef15]; rfl
  refine lv_aload_n hx hb d_Mod_init_129 rfl (lv_at hl 0 rfl) ?_
  refine lv_bipush (v := 8) hx hb d_Mod_init_130 (by decide) ?_
  refine va_newa (atype := .int) (ty := .int) (a0 := (8, .inl (fun _ => 0))) hx hb (B.2.2.2.2.1 _ ed_a0) rfl hK hP hD hS hA (fun _ => rfl) (by decide) (N' := 8) (by decide) (by decide) (Nat.le_of_ble_eq_true rfl) (Nat.le_of_ble_eq_true rfl) d_Mod_init_132 (fun q17 cA H hKn hP hD hS => ?_)
  have hce := ed_caE 0 hKn rfl
  subst hce
  clear hKn
  refine W.widen (k := 17) (n := 172) (by decide) (by decide) ?_
  obtain ⟨tl17, ht17⟩ : ∃ z : va_W, z = tl16 ++ [(q17, .inl (ca 0, 8, .inl (fun _ => 0)))] := ⟨_, rfl⟩
  have hm17 : tl17.length = 17 := by rw [ht17, List.length_append, hm16]; rfl
  have hP : va_P D vwCl ((h0, .inr (8, fs16)) :: tl17) H := by rw [ht17]; exact hP
  have hD : va_D A ((h0, .inr (8, fs16)) :: tl17) := by rw [ht17]; exact hD
  have hr17 : tl17[16]? = some (q17, .inl (ca 0, 8, .inl (fun _ => 0))) := by rw [ht17, List.getElem?_append_right (by rw [hm16]; decide), hm16]; rfl
  have v3 : tl17[3]? = some (q4, .inl (ca 0, 32, .inl (fun _ => 0))) := by rw [ht17, List.getElem?_append_left (by rw [hm16]; decide)]; exact v3
  have et17 : tl17 = [(q1, .inl (ca 0, 4, .inl (fun _ => 0))), (q2, .inl (ca 0, 4, .inl (fun _ => 0))), (q3, .inl (ca 0, 4, .inl (fun _ => 0))), (q4, .inl (ca 0, 32, .inl (fun _ => 0))), (q5, .inl (ca 0, 32, .inl (fun _ => 0))), (q6, .inl (ca 0, 8, .inl (fun _ => 0))), (q7, .inl (ca 0, 8, .inl (fun _ => 0))), (q8, .inl (ca 0, 8, .inl (fun _ => 0))), (q9, .inl (ca 0, 8, .inl (fun _ => 0))), (q10, .inl (ca 0, 8, .inl (fun _ => 0))), (q11, .inl (ca 0, 8, .inl (fun _ => 0))), (q12, .inl (ca 0, 8, .inl (fun _ => 0))), (q13, .inl (ca 0, 8, .inl (fun _ => 0))), (q14, .inl (ca 0, 8, .inl (fun _ => 0))), (q15, .inl (ca 0, 8, .inl (fun _ => 0))), (q16, .inl (ca 0, 8, .inl (fun _ => 0))), (q17, .inl (ca 0, 8, .inl (fun _ => 0)))] := by rw [ht17, et16]; rfl
  refine va_putF (D := D) (ci := 8) (v := .ref q17) (ty := .array .int) (C := "ExecutiveDeskModel") (T := T_Mod) (N := 53) hx hb B.2.2.2.2.1 iw_Mod ty_Mod tyok_Mod nm_Mod B.2.2.2.1 hK hP hD hS 0 rfl rfl 16 (by decide) (B.2.2.2.2.1 _ L_Mod_58) (fun _ h9 => h9) rfl B.2.2.2.2.2.2.2.2.1 rfl (by decide +kernel) rfl rfl (by rw [hn16]; decide) d_Mod_init_134 (fun H locs hP hD hS => ?_)
  obtain ⟨fs17, hf17⟩ : ∃ z : List Value, z = fs16.set 16 (.ref q17) := ⟨_, rfl⟩
  have hn17 : fs17.length = 53 := by rw [hf17, List.length_set]; exact hn16
  have hP : va_P D vwCl ((h0, .inr (8, fs17)) :: tl17) H := by rw [hf17]; exact hP
  have hD : va_D A ((h0, .inr (8, fs17)) :: tl17) := by rw [hf17]; exact hD
  have g3 : fs17[3]? = some (.ref q4) := by rw [hf17, List.getElem?_set_ne (by decide)]; exact g3
  have ef17 : fs17 = [.ref q1, .ref q2, .ref q3, .ref q4, .ref q5, .ref q6, .ref q7, .ref q8, .ref q9, .ref q10, .ref q11, .ref q12, .ref q13, .ref q14, .ref q15, .ref q16, .ref q17, .null, .null, .null, .null, .null, .null, .null, .null, .null, .null, .null, .null, .null, .null, .null, .null, .null, .null, .null, .null, .null, .null, .null, .null, .null, .int 0, .int 0, .int 0, .int 0, .int 0, .int 0, .int 0, .int 0, .int 0, .int 0, .int 0] := by rw [hf17, ef16]; rfl
  refine lv_aload_n hx hb d_Mod_init_137 rfl (lv_at hl 0 rfl) ?_
  refine lv_bipush (v := 24) hx hb d_Mod_init_138 (by decide) ?_
  refine va_newa (atype := .int) (ty := .int) (a0 := (24, .inl (fun _ => 0))) hx hb (B.2.2.2.2.1 _ ed_a0) rfl hK hP hD hS hA (fun _ => rfl) (by decide) (N' := 24) (by decide) (by decide) (Nat.le_of_ble_eq_true rfl) (Nat.le_of_ble_eq_true rfl) d_Mod_init_140 (fun q18 cA H hKn hP hD hS => ?_)
  have hce := ed_caE 0 hKn rfl
  subst hce
  clear hKn
  refine W.widen (k := 18) (n := 196) (by decide) (by decide) ?_
  obtain ⟨tl18, ht18⟩ : ∃ z : va_W, z = tl17 ++ [(q18, .inl (ca 0, 24, .inl (fun _ => 0)))] := ⟨_, rfl⟩
  have hm18 : tl18.length = 18 := by rw [ht18, List.length_append, hm17]; rfl
  have hP : va_P D vwCl ((h0, .inr (8, fs17)) :: tl18) H := by rw [ht18]; exact hP
  have hD : va_D A ((h0, .inr (8, fs17)) :: tl18) := by rw [ht18]; exact hD
  have hr18 : tl18[17]? = some (q18, .inl (ca 0, 24, .inl (fun _ => 0))) := by rw [ht18, List.getElem?_append_right (by rw [hm17]; decide), hm17]; rfl
  have v3 : tl18[3]? = some (q4, .inl (ca 0, 32, .inl (fun _ => 0))) := by rw [ht18, List.getElem?_append_left (by rw [hm17]; decide)]; exact v3
  have et18 : tl18 = [(q1, .inl (ca 0, 4, .inl (fun _ => 0))), (q2, .inl (ca 0, 4, .inl (fun _ => 0))), (q3, .inl (ca 0, 4, .inl (fun _ => 0))), (q4, .inl (ca 0, 32, .inl (fun _ => 0))), (q5, .inl (ca 0, 32, .inl (fun _ => 0))), (q6, .inl (ca 0, 8, .inl (fun _ => 0))), (q7, .inl (ca 0, 8, .inl (fun _ => 0))), (q8, .inl (ca 0, 8, .inl (fun _ => 0))), (q9, .inl (ca 0, 8, .inl (fun _ => 0))), (q10, .inl (ca 0, 8, .inl (fun _ => 0))), (q11, .inl (ca 0, 8, .inl (fun _ => 0))), (q12, .inl (ca 0, 8, .inl (fun _ => 0))), (q13, .inl (ca 0, 8, .inl (fun _ => 0))), (q14, .inl (ca 0, 8, .inl (fun _ => 0))), (q15, .inl (ca 0, 8, .inl (fun _ => 0))), (q16, .inl (ca 0, 8, .inl (fun _ => 0))), (q17, .inl (ca 0, 8, .inl (fun _ => 0))), (q18, .inl (ca 0, 24, .inl (fun _ => 0)))] := by rw [ht18, et17]; rfl
  refine va_putF (D := D) (ci := 8) (v := .ref q18) (ty := .array .int) (C := "ExecutiveDeskModel") (T := T_Mod) (N := 53) hx hb B.2.2.2.2.1 iw_Mod ty_Mod tyok_Mod nm_Mod B.2.2.2.1 hK hP hD hS 0 rfl rfl 17 (by decide) (B.2.2.2.2.1 _ L_Mod_61) (fun _ h9 => h9) rfl B.2.2.2.2.2.2.2.2.1 rfl (by decide +kernel) rfl rfl (by rw [hn17]; decide) d_Mod_init_142 (fun H locs hP hD hS => ?_)
  obtain ⟨fs18, hf18⟩ : ∃ z : List Value, z = fs17.set 17 (.ref q18) := ⟨_, rfl⟩
  have hn18 : fs18.length = 53 := by rw [hf18, List.length_set]; exact hn17
  have hP : va_P D vwCl ((h0, .inr (8, fs18)) :: tl18) H := by rw [hf18]; exact hP
  have hD : va_D A ((h0, .inr (8, fs18)) :: tl18) := by rw [hf18]; exact hD
  have g3 : fs18[3]? = some (.ref q4) := by rw [hf18, List.getElem?_set_ne (by decide)]; exact g3
  have ef18 : fs18 = [.ref q1, .ref q2, .ref q3, .ref q4, .ref q5, .ref q6, .ref q7, .ref q8, .ref q9, .ref q10, .ref q11, .ref q12, .ref q13, .ref q14, .ref q15, .ref q16, .ref q17, .ref q18, .null, .null, .null, .null, .null, .null, .null, .null, .null, .null, .null, .null, .null, .null, .null, .null, .null, .null, .null, .null, .null, .null, .null, .null, .int 0, .int 0, .int 0, .int 0, .int 0, .int 0, .int 0, .int 0, .int 0, .int 0, .int 0] := by rw [hf18, ef17]; rfl
  refine lv_aload_n hx hb d_Mod_init_145 rfl (lv_at hl 0 rfl) ?_
  refine lv_bipush (v := 32) hx hb d_Mod_init_146 (by decide) ?_
  refine va_newa (atype := .int) (ty := .int) (a0 := (32, .inl (fun _ => 0))) hx hb (B.2.2.2.2.1 _ ed_a0) rfl hK hP hD hS hA (fun _ => rfl) (by decide) (N' := 32) (by decide) (by decide) (Nat.le_of_ble_eq_true rfl) (Nat.le_of_ble_eq_true rfl) d_Mod_init_148 (fun q19 cA H hKn hP hD hS => ?_)
  have hce := ed_caE 0 hKn rfl
  subst hce
  clear hKn
  refine W.widen (k := 19) (n := 228) (by decide) (by decide) ?_
  obtain ⟨tl19, ht19⟩ : ∃ z : va_W, z = tl18 ++ [(q19, .inl (ca 0, 32, .inl (fun _ => 0)))] := ⟨_, rfl⟩
  have hm19 : tl19.length = 19 := by rw [ht19, List.length_append, hm18]; rfl
  have hP : va_P D vwCl ((h0, .inr (8, fs18)) :: tl19) H := by rw [ht19]; exact hP
  have hD : va_D A ((h0, .inr (8, fs18)) :: tl19) := by rw [ht19]; exact hD
  have hr19 : tl19[18]? = some (q19, .inl (ca 0, 32, .inl (fun _ => 0))) := by rw [ht19, List.getElem?_append_right (by rw [hm18]; decide), hm18]; rfl
  have v3 : tl19[3]? = some (q4, .inl (ca 0, 32, .inl (fun _ => 0))) := by rw [ht19, List.getElem?_append_left (by rw [hm18]; decide)]; exact v3
  have et19 : tl19 = [(q1, .inl (ca 0, 4, .inl (fun _ => 0))), (q2, .inl (ca 0, 4, .inl (fun _ => 0))), (q3, .inl (ca 0, 4, .inl (fun _ => 0))), (q4, .inl (ca 0, 32, .inl (fun _ => 0))), (q5, .inl (ca 0, 32, .inl (fun _ => 0))), (q6, .inl (ca 0, 8, .inl (fun _ => 0))), (q7, .inl (ca 0, 8, .inl (fun _ => 0))), (q8, .inl (ca 0, 8, .inl (fun _ => 0))), (q9, .inl (ca 0, 8, .inl (fun _ => 0))), (q10, .inl (ca 0, 8, .inl (fun _ => 0))), (q11, .inl (ca 0, 8, .inl (fun _ => 0))), (q12, .inl (ca 0, 8, .inl (fun _ => 0))), (q13, .inl (ca 0, 8, .inl (fun _ => 0))), (q14, .inl (ca 0, 8, .inl (fun _ => 0))), (q15, .inl (ca 0, 8, .inl (fun _ => 0))), (q16, .inl (ca 0, 8, .inl (fun _ => 0))), (q17, .inl (ca 0, 8, .inl (fun _ => 0))), (q18, .inl (ca 0, 24, .inl (fun _ => 0))), (q19, .inl (ca 0, 32, .inl (fun _ => 0)))] := by rw [ht19, et18]; rfl
  refine va_putF (D := D) (ci := 8) (v := .ref q19) (ty := .array .int) (C := "ExecutiveDeskModel") (T := T_Mod) (N := 53) hx hb B.2.2.2.2.1 iw_Mod ty_Mod tyok_Mod nm_Mod B.2.2.2.1 hK hP hD hS 0 rfl rfl 18 (by decide) (B.2.2.2.2.1 _ L_Mod_64) (fun _ h9 => h9) rfl B.2.2.2.2.2.2.2.2.1 rfl (by decide +kernel) rfl rfl (by rw [hn18]; decide) d_Mod_init_150 (fun H locs hP hD hS => ?_)
  obtain ⟨fs19, hf19⟩ : ∃ z : List Value, z = fs18.set 18 (.ref q19) := ⟨_, rfl⟩
  have hn19 : fs19.length = 53 := by rw [hf19, List.length_set]; exact hn18
  have hP : va_P D vwCl ((h0, .inr (8, fs19)) :: tl19) H := by rw [hf19]; exact hP
  have hD : va_D A ((h0, .inr (8, fs19)) :: tl19) := by rw [hf19]; exact hD
  have g3 : fs19[3]? = some (.ref q4) := by rw [hf19, List.getElem?_set_ne (by decide)]; exact g3
  have ef19 : fs19 = [.ref q1, .ref q2, .ref q3, .ref q4, .ref q5, .ref q6, .ref q7, .ref q8, .ref q9, .ref q10, .ref q11, .ref q12, .ref q13, .ref q14, .ref q15, .ref q16, .ref q17, .ref q18, .ref q19, .null, .null, .null, .null, .null, .null, .null, .null, .null, .null, .null, .null, .null, .null, .null, .null, .null, .null, .null, .null, .null, .null, .null, .int 0, .int 0, .int 0, .int 0, .int 0, .int 0, .int 0, .int 0, .int 0, .int 0, .int 0] := by rw [hf19, ef18]; rfl
  refine lv_aload_n hx hb d_Mod_init_153 rfl (lv_at hl 0 rfl) ?_
  refine lv_bipush (v := 16) hx hb d_Mod_init_154 (by decide) ?_
  refine va_newa (atype := .boolean) (ty := .boolean) (a0 := (16, .inl (fun _ => 0))) hx hb (B.2.2.2.2.1 _ ed_a6) rfl hK hP hD hS hA (fun _ => rfl) (by decide) (N' := 16) (by decide) (by decide) (Nat.le_of_ble_eq_true rfl) (Nat.le_of_ble_eq_true rfl) d_Mod_init_156 (fun q20 cA H hKn hP hD hS => ?_)
  have hce := ed_caE 6 hKn rfl
  subst hce
  clear hKn
  refine W.widen (k := 20) (n := 244) (by decide) (by decide) ?_
  obtain ⟨tl20, ht20⟩ : ∃ z : va_W, z = tl19 ++ [(q20, .inl (ca 6, 16, .inl (fun _ => 0)))] := ⟨_, rfl⟩
  have hm20 : tl20.length = 20 := by rw [ht20, List.length_append, hm19]; rfl
  have hP : va_P D vwCl ((h0, .inr (8, fs19)) :: tl20) H := by rw [ht20]; exact hP
  have hD : va_D A ((h0, .inr (8, fs19)) :: tl20) := by rw [ht20]; exact hD
  have hr20 : tl20[19]? = some (q20, .inl (ca 6, 16, .inl (fun _ => 0))) := by rw [ht20, List.getElem?_append_right (by rw [hm19]; decide), hm19]; rfl
  have v3 : tl20[3]? = some (q4, .inl (ca 0, 32, .inl (fun _ => 0))) := by rw [ht20, List.getElem?_append_left (by rw [hm19]; decide)]; exact v3
  have et20 : tl20 = [(q1, .inl (ca 0, 4, .inl (fun _ => 0))), (q2, .inl (ca 0, 4, .inl (fun _ => 0))), (q3, .inl (ca 0, 4, .inl (fun _ => 0))), (q4, .inl (ca 0, 32, .inl (fun _ => 0))), (q5, .inl (ca 0, 32, .inl (fun _ => 0))), (q6, .inl (ca 0, 8, .inl (fun _ => 0))), (q7, .inl (ca 0, 8, .inl (fun _ => 0))), (q8, .inl (ca 0, 8, .inl (fun _ => 0))), (q9, .inl (ca 0, 8, .inl (fun _ => 0))), (q10, .inl (ca 0, 8, .inl (fun _ => 0))), (q11, .inl (ca 0, 8, .inl (fun _ => 0))), (q12, .inl (ca 0, 8, .inl (fun _ => 0))), (q13, .inl (ca 0, 8, .inl (fun _ => 0))), (q14, .inl (ca 0, 8, .inl (fun _ => 0))), (q15, .inl (ca 0, 8, .inl (fun _ => 0))), (q16, .inl (ca 0, 8, .inl (fun _ => 0))), (q17, .inl (ca 0, 8, .inl (fun _ => 0))), (q18, .inl (ca 0, 24, .inl (fun _ => 0))), (q19, .inl (ca 0, 32, .inl (fun _ => 0))), (q20, .inl (ca 6, 16, .inl (fun _ => 0)))] := by rw [ht20, et19]; rfl
  refine va_putF (D := D) (ci := 8) (v := .ref q20) (ty := .array .boolean) (C := "ExecutiveDeskModel") (T := T_Mod) (N := 53) hx hb B.2.2.2.2.1 iw_Mod ty_Mod tyok_Mod nm_Mod B.2.2.2.1 hK hP hD hS 0 rfl rfl 19 (by decide) (B.2.2.2.2.1 _ L_Mod_67) (fun _ h9 => h9) rfl B.2.2.2.2.2.2.2.2.1 rfl (by decide +kernel) rfl rfl (by rw [hn19]; decide) d_Mod_init_158 (fun H locs hP hD hS => ?_)
  obtain ⟨fs20, hf20⟩ : ∃ z : List Value, z = fs19.set 19 (.ref q20) := ⟨_, rfl⟩
  have hn20 : fs20.length = 53 := by rw [hf20, List.length_set]; exact hn19
  have hP : va_P D vwCl ((h0, .inr (8, fs20)) :: tl20) H := by rw [hf20]; exact hP
  have hD : va_D A ((h0, .inr (8, fs20)) :: tl20) := by rw [hf20]; exact hD
  have g3 : fs20[3]? = some (.ref q4) := by rw [hf20, List.getElem?_set_ne (by decide)]; exact g3
  have ef20 : fs20 = [.ref q1, .ref q2, .ref q3, .ref q4, .ref q5, .ref q6, .ref q7, .ref q8, .ref q9, .ref q10, .ref q11, .ref q12, .ref q13, .ref q14, .ref q15, .ref q16, .ref q17, .ref q18, .ref q19, .ref q20, .null, .null, .null, .null, .null, .null, .null, .null, .null, .null, .null, .null, .null, .null, .null, .null, .null, .null, .null, .null, .null, .null, .int 0, .int 0, .int 0, .int 0, .int 0, .int 0, .int 0, .int 0, .int 0, .int 0, .int 0] := by rw [hf20, ef19]; rfl
  refine lv_aload_n hx hb d_Mod_init_161 rfl (lv_at hl 0 rfl) ?_
  refine lv_bipush (v := 16) hx hb d_Mod_init_162 (by decide) ?_
  refine va_newa (atype := .boolean) (ty := .boolean) (a0 := (16, .inl (fun _ => 0))) hx hb (B.2.2.2.2.1 _ ed_a6) rfl hK hP hD hS hA (fun _ => rfl) (by decide) (N' := 16) (by decide) (by decide) (Nat.le_of_ble_eq_true rfl) (Nat.le_of_ble_eq_true rfl) d_Mod_init_164 (fun q21 cA H hKn hP hD hS => ?_)
  have hce := ed_caE 6 hKn rfl
  subst hce
  clear hKn
  refine W.widen (k := 21) (n := 260) (by decide) (by decide) ?_
  obtain ⟨tl21, ht21⟩ : ∃ z : va_W, z = tl20 ++ [(q21, .inl (ca 6, 16, .inl (fun _ => 0)))] := ⟨_, rfl⟩
  have hm21 : tl21.length = 21 := by rw [ht21, List.length_append, hm20]; rfl
  have hP : va_P D vwCl ((h0, .inr (8, fs20)) :: tl21) H := by rw [ht21]; exact hP
  have hD : va_D A ((h0, .inr (8, fs20)) :: tl21) := by rw [ht21]; exact hD
  have hr21 : tl21[20]? = some (q21, .inl (ca 6, 16, .inl (fun _ => 0))) := by rw [ht21, List.getElem?_append_right (by rw [hm20]; decide), hm20]; rfl
  have v3 : tl21[3]? = some (q4, .inl (ca 0, 32, .inl (fun _ => 0))) := by rw [ht21, List.getElem?_append_left (by rw [hm20]; decide)]; exact v3
  have et21 : tl21 = [(q1, .inl (ca 0, 4, .inl (fun _ => 0))), (q2, .inl (ca 0, 4, .inl (fun _ => 0))), (q3, .inl (ca 0, 4, .inl (fun _ => 0))), (q4, .inl (ca 0, 32, .inl (fun _ => 0))), (q5, .inl (ca 0, 32, .inl (fun _ => 0))), (q6, .inl (ca 0, 8, .inl (fun _ => 0))), (q7, .inl (ca 0, 8, .inl (fun _ => 0))), (q8, .inl (ca 0, 8, .inl (fun _ => 0))), (q9, .inl (ca 0, 8, .inl (fun _ => 0))), (q10, .inl (ca 0, 8, .inl (fun _ => 0))), (q11, .inl (ca 0, 8, .inl (fun _ => 0))), (q12, .inl (ca 0, 8, .inl (fun _ => 0))), (q13, .inl (ca 0, 8, .inl (fun _ => 0))), (q14, .inl (ca 0, 8, .inl (fun _ => 0))), (q15, .inl (ca 0, 8, .inl (fun _ => 0))), (q16, .inl (ca 0, 8, .inl (fun _ => 0))), (q17, .inl (ca 0, 8, .inl (fun _ => 0))), (q18, .inl (ca 0, 24, .inl (fun _ => 0))), (q19, .inl (ca 0, 32, .inl (fun _ => 0))), (q20, .inl (ca 6, 16, .inl (fun _ => 0))), (q21, .inl (ca 6, 16, .inl (fun _ => 0)))] := by rw [ht21, et20]; rfl
  refine va_putF (D := D) (ci := 8) (v := .ref q21) (ty := .array .boolean) (C := "ExecutiveDeskModel") (T := T_Mod) (N := 53) hx hb B.2.2.2.2.1 iw_Mod ty_Mod tyok_Mod nm_Mod B.2.2.2.1 hK hP hD hS 0 rfl rfl 20 (by decide) (B.2.2.2.2.1 _ L_Mod_71) (fun _ h9 => h9) rfl B.2.2.2.2.2.2.2.2.1 rfl (by decide +kernel) rfl rfl (by rw [hn20]; decide) d_Mod_init_166 (fun H locs hP hD hS => ?_)
  obtain ⟨fs21, hf21⟩ : ∃ z : List Value, z = fs20.set 20 (.ref q21) := ⟨_, rfl⟩
  have hn21 : fs21.length = 53 := by rw [hf21, List.length_set]; exact hn20
  have hP : va_P D vwCl ((h0, .inr (8, fs21)) :: tl21) H := by rw [hf21]; exact hP
  have hD : va_D A ((h0, .inr (8, fs21)) :: tl21) := by rw [hf21]; exact hD
  have g3 : fs21[3]? = some (.ref q4) := by rw [hf21, List.getElem?_set_ne (by decide)]; exact g3
  have ef21 : fs21 = [.ref q1, .ref q2, .ref q3, .ref q4, .ref q5, .ref q6, .ref q7, .ref q8, .ref q9, .ref q10, .ref q11, .ref q12, .ref q13, .ref q14, .ref q15, .ref q16, .ref q17, .ref q18, .ref q19, .ref q20, .ref q21, .null, .null, .null, .null, .null, .null, .null, .null, .null, .null, .null, .null, .null, .null, .null, .null, .null, .null, .null, .null, .null, .int 0, .int 0, .int 0, .int 0, .int 0, .int 0, .int 0, .int 0, .int 0, .int 0, .int 0] := by rw [hf21, ef20]; rfl
  refine lv_aload_n hx hb d_Mod_init_169 rfl (lv_at hl 0 rfl) ?_
  refine lv_bipush (v := 16) hx hb d_Mod_init_170 (by decide) ?_
  refine va_newa (atype := .boolean) (ty := .boolean) (a0 := (16, .inl (fun _ => 0))) hx hb (B.2.2.2.2.1 _ ed_a6) rfl hK hP hD hS hA (fun _ => rfl) (by decide) (N' := 16) (by decide) (by decide) (Nat.le_of_ble_eq_true rfl) (Nat.le_of_ble_eq_true rfl) d_Mod_init_172 (fun q22 cA H hKn hP hD hS => ?_)
  have hce := ed_caE 6 hKn rfl
  subst hce
  clear hKn
  refine W.widen (k := 22) (n := 276) (by decide) (by decide) ?_
  obtain ⟨tl22, ht22⟩ : ∃ z : va_W, z = tl21 ++ [(q22, .inl (ca 6, 16, .inl (fun _ => 0)))] := ⟨_, rfl⟩
  have hm22 : tl22.length = 22 := by rw [ht22, List.length_append, hm21]; rfl
  have hP : va_P D vwCl ((h0, .inr (8, fs21)) :: tl22) H := by rw [ht22]; exact hP
  have hD : va_D A ((h0, .inr (8, fs21)) :: tl22) := by rw [ht22]; exact hD
  have hr22 : tl22[21]? = some (q22, .inl (ca 6, 16, .inl (fun _ => 0))) := by rw [ht22, List.getElem?_append_right (by rw [hm21]; decide), hm21]; rfl
  have v3 : tl22[3]? = some (q4, .inl (ca 0, 32, .inl (fun _ => 0))) := by rw [ht22, List.getElem?_append_left (by rw [hm21]; decide)]; exact v3
  have et22 : tl22 = [(q1, .inl (ca 0, 4, .inl (fun _ => 0))), (q2, .inl (ca 0, 4, .inl (fun _ => 0))), (q3, .inl (ca 0, 4, .inl (fun _ => 0))), (q4, .inl (ca 0, 32, .inl (fun _ => 0))), (q5, .inl (ca 0, 32, .inl (fun _ => 0))), (q6, .inl (ca 0, 8, .inl (fun _ => 0))), (q7, .inl (ca 0, 8, .inl (fun _ => 0))), (q8, .inl (ca 0, 8, .inl (fun _ => 0))), (q9, .inl (ca 0, 8, .inl (fun _ => 0))), (q10, .inl (ca 0, 8, .inl (fun _ => 0))), (q11, .inl (ca 0, 8, .inl (fun _ => 0))), (q12, .inl (ca 0, 8, .inl (fun _ => 0))), (q13, .inl (ca 0, 8, .inl (fun _ => 0))), (q14, .inl (ca 0, 8, .inl (fun _ => 0))), (q15, .inl (ca 0, 8, .inl (fun _ => 0))), (q16, .inl (ca 0, 8, .inl (fun _ => 0))), (q17, .inl (ca 0, 8, .inl (fun _ => 0))), (q18, .inl (ca 0, 24, .inl (fun _ => 0))), (q19, .inl (ca 0, 32, .inl (fun _ => 0))), (q20, .inl (ca 6, 16, .inl (fun _ => 0))), (q21, .inl (ca 6, 16, .inl (fun _ => 0))), (q22, .inl (ca 6, 16, .inl (fun _ => 0)))] := by rw [ht22, et21]; rfl
  refine va_putF (D := D) (ci := 8) (v := .ref q22) (ty := .array .boolean) (C := "ExecutiveDeskModel") (T := T_Mod) (N := 53) hx hb B.2.2.2.2.1 iw_Mod ty_Mod tyok_Mod nm_Mod B.2.2.2.1 hK hP hD hS 0 rfl rfl 21 (by decide) (B.2.2.2.2.1 _ L_Mod_74) (fun _ h9 => h9) rfl B.2.2.2.2.2.2.2.2.1 rfl (by decide +kernel) rfl rfl (by rw [hn21]; decide) d_Mod_init_174 (fun H locs hP hD hS => ?_)
  obtain ⟨fs22, hf22⟩ : ∃ z : List Value, z = fs21.set 21 (.ref q22) := ⟨_, rfl⟩
  have hn22 : fs22.length = 53 := by rw [hf22, List.length_set]; exact hn21
  have hP : va_P D vwCl ((h0, .inr (8, fs22)) :: tl22) H := by rw [hf22]; exact hP
  have hD : va_D A ((h0, .inr (8, fs22)) :: tl22) := by rw [hf22]; exact hD
  have g3 : fs22[3]? = some (.ref q4) := by rw [hf22, List.getElem?_set_ne (by decide)]; exact g3
  have ef22 : fs22 = [.ref q1, .ref q2, .ref q3, .ref q4, .ref q5, .ref q6, .ref q7, .ref q8, .ref q9, .ref q10, .ref q11, .ref q12, .ref q13, .ref q14, .ref q15, .ref q16, .ref q17, .ref q18, .ref q19, .ref q20, .ref q21, .ref q22, .null, .null, .null, .null, .null, .null, .null, .null, .null, .null, .null, .null, .null, .null, .null, .null, .null, .null, .null, .null, .int 0, .int 0, .int 0, .int 0, .int 0, .int 0, .int 0, .int 0, .int 0, .int 0, .int 0] := by rw [hf22, ef21]; rfl
  refine lv_aload_n hx hb d_Mod_init_177 rfl (lv_at hl 0 rfl) ?_
  refine lv_bipush (v := 16) hx hb d_Mod_init_178 (by decide) ?_
  refine va_newa (atype := .int) (ty := .int) (a0 := (16, .inl (fun _ => 0))) hx hb (B.2.2.2.2.1 _ ed_a0) rfl hK hP hD hS hA (fun _ => rfl) (by decide) (N' := 16) (by decide) (by decide) (Nat.le_of_ble_eq_true rfl) (Nat.le_of_ble_eq_true rfl) d_Mod_init_180 (fun q23 cA H hKn hP hD hS => ?_)
  have hce := ed_caE 0 hKn rfl
  subst hce
  clear hKn
  refine W.widen (k := 23) (n := 292) (by decide) (by decide) ?_
  obtain ⟨tl23, ht23⟩ : ∃ z : va_W, z = tl22 ++ [(q23, .inl (ca 0, 16, .inl (fun _ => 0)))] := ⟨_, rfl⟩
  have hm23 : tl23.length = 23 := by rw [ht23, List.length_append, hm22]; rfl
  have hP : va_P D vwCl ((h0, .inr (8, fs22)) :: tl23) H := by rw [ht23]; exact hP
  have hD : va_D A ((h0, .inr (8, fs22)) :: tl23) := by rw [ht23]; exact hD
  have hr23 : tl23[22]? = some (q23, .inl (ca 0, 16, .inl (fun _ => 0))) := by rw [ht23, List.getElem?_append_right (by rw [hm22]; decide), hm22]; rfl
  have v3 : tl23[3]? = some (q4, .inl (ca 0, 32, .inl (fun _ => 0))) := by rw [ht23, List.getElem?_append_left (by rw [hm22]; decide)]; exact v3
  have et23 : tl23 = [(q1, .inl (ca 0, 4, .inl (fun _ => 0))), (q2, .inl (ca 0, 4, .inl (fun _ => 0))), (q3, .inl (ca 0, 4, .inl (fun _ => 0))), (q4, .inl (ca 0, 32, .inl (fun _ => 0))), (q5, .inl (ca 0, 32, .inl (fun _ => 0))), (q6, .inl (ca 0, 8, .inl (fun _ => 0))), (q7, .inl (ca 0, 8, .inl (fun _ => 0))), (q8, .inl (ca 0, 8, .inl (fun _ => 0))), (q9, .inl (ca 0, 8, .inl (fun _ => 0))), (q10, .inl (ca 0, 8, .inl (fun _ => 0))), (q11, .inl (ca 0, 8, .inl (fun _ => 0))), (q12, .inl (ca 0, 8, .inl (fun _ => 0))), (q13, .inl (ca 0, 8, .inl (fun _ => 0))), (q14, .inl (ca 0, 8, .inl (fun _ => 0))), (q15, .inl (ca 0, 8, .inl (fun _ => 0))), (q16, .inl (ca 0, 8, .inl (fun _ => 0))), (q17, .inl (ca 0, 8, .inl (fun _ => 0))), (q18, .inl (ca 0, 24, .inl (fun _ => 0))), (q19, .inl (ca 0, 32, .inl (fun _ => 0))), (q20, .inl (ca 6, 16, .inl (fun _ => 0))), (q21, .inl (ca 6, 16, .inl (fun _ => 0))), (q22, .inl (ca 6, 16, .inl (fun _ => 0))), (q23, .inl (ca 0, 16, .inl (fun _ => 0)))] := by rw [ht23, et22]; rfl
  refine va_putF (D := D) (ci := 8) (v := .ref q23) (ty := .array .int) (C := "ExecutiveDeskModel") (T := T_Mod) (N := 53) hx hb B.2.2.2.2.1 iw_Mod ty_Mod tyok_Mod nm_Mod B.2.2.2.1 hK hP hD hS 0 rfl rfl 22 (by decide) (B.2.2.2.2.1 _ L_Mod_77) (fun _ h9 => h9) rfl B.2.2.2.2.2.2.2.2.1 rfl (by decide +kernel) rfl rfl (by rw [hn22]; decide) d_Mod_init_182 (fun H locs hP hD hS => ?_)
  obtain ⟨fs23, hf23⟩ : ∃ z : List Value, z = fs22.set 22 (.ref q23) := ⟨_, rfl⟩
  have hn23 : fs23.length = 53 := by rw [hf23, List.length_set]; exact hn22
  have hP : va_P D vwCl ((h0, .inr (8, fs23)) :: tl23) H := by rw [hf23]; exact hP
  have hD : va_D A ((h0, .inr (8, fs23)) :: tl23) := by rw [hf23]; exact hD
  have g3 : fs23[3]? = some (.ref q4) := by rw [hf23, List.getElem?_set_ne (by decide)]; exact g3
  have ef23 : fs23 = [.ref q1, .ref q2, .ref q3, .ref q4, .ref q5, .ref q6, .ref q7, .ref q8, .ref q9, .ref q10, .ref q11, .ref q12, .ref q13, .ref q14, .ref q15, .ref q16, .ref q17, .ref q18, .ref q19, .ref q20, .ref q21, .ref q22, .ref q23, .null, .null, .null, .null, .null, .null, .null, .null, .null, .null, .null, .null, .null, .null, .null, .null, .null, .null, .null, .int 0, .int 0, .int 0, .int 0, .int 0, .int 0, .int 0, .int 0, .int 0, .int 0, .int 0] := by rw [hf23, ef22]; rfl
  refine lv_aload_n hx hb d_Mod_init_185 rfl (lv_at hl 0 rfl) ?_
  refine lv_bipush (v := 16) hx hb d_Mod_init_186 (by decide) ?_
  refine va_newa (atype := .int) (ty := .int) (a0 := (16, .inl (fun _ => 0))) hx hb (B.2.2.2.2.1 _ ed_a0) rfl hK hP hD hS hA (fun _ => rfl) (by decide) (N' := 16) (by decide) (by decide) (Nat.le_of_ble_eq_true rfl) (Nat.le_of_ble_eq_true rfl) d_Mod_init_188 (fun q24 cA H hKn hP hD hS => ?_)
  have hce := ed_caE 0 hKn rfl
  subst hce
  clear hKn
  refine W.widen (k := 24) (n := 308) (by decide) (by decide) ?_
  obtain ⟨tl24, ht24⟩ : ∃ z : va_W, z = tl23 ++ [(q24, .inl (ca 0, 16, .inl (fun _ => 0)))] := ⟨_, rfl⟩
  have hm24 : tl24.length = 24 := by rw [ht24, List.length_append, hm23]; rfl
  have hP : va_P D vwCl ((h0, .inr (8, fs23)) :: tl24) H := by rw [ht24]; exact hP
  have hD : va_D A ((h0, .inr (8, fs23)) :: tl24) := by rw [ht24]; exact hD
  have hr24 : tl24[23]? = some (q24, .inl (ca 0, 16, .inl (fun _ => 0))) := by rw [ht24, List.getElem?_append_right (by rw [hm23]; decide), hm23]; rfl
  have v3 : tl24[3]? = some (q4, .inl (ca 0, 32, .inl (fun _ => 0))) := by rw [ht24, List.getElem?_append_left (by rw [hm23]; decide)]; exact v3
  have et24 : tl24 = [(q1, .inl (ca 0, 4, .inl (fun _ => 0))), (q2, .inl (ca 0, 4, .inl (fun _ => 0))), (q3, .inl (ca 0, 4, .inl (fun _ => 0))), (q4, .inl (ca 0, 32, .inl (fun _ => 0))), (q5, .inl (ca 0, 32, .inl (fun _ => 0))), (q6, .inl (ca 0, 8, .inl (fun _ => 0))), (q7, .inl (ca 0, 8, .inl (fun _ => 0))), (q8, .inl (ca 0, 8, .inl (fun _ => 0))), (q9, .inl (ca 0, 8, .inl (fun _ => 0))), (q10, .inl (ca 0, 8, .inl (fun _ => 0))), (q11, .inl (ca 0, 8, .inl (fun _ => 0))), (q12, .inl (ca 0, 8, .inl (fun _ => 0))), (q13, .inl (ca 0, 8, .inl (fun _ => 0))), (q14, .inl (ca 0, 8, .inl (fun _ => 0))), (q15, .inl (ca 0, 8, .inl (fun _ => 0))), (q16, .inl (ca 0, 8, .inl (fun _ => 0))), (q17, .inl (ca 0, 8, .inl (fun _ => 0))), (q18, .inl (ca 0, 24, .inl (fun _ => 0))), (q19, .inl (ca 0, 32, .inl (fun _ => 0))), (q20, .inl (ca 6, 16, .inl (fun _ => 0))), (q21, .inl (ca 6, 16, .inl (fun _ => 0))), (q22, .inl (ca 6, 16, .inl (fun _ => 0))), (q23, .inl (ca 0, 16, .inl (fun _ => 0))), (q24, .inl (ca 0, 16, .inl (fun _ => 0)))] := by rw [ht24, et23]; rfl
  refine va_putF (D := D) (ci := 8) (v := .ref q24) (ty := .array .int) (C := "ExecutiveDeskModel") (T := T_Mod) (N := 53) hx hb B.2.2.2.2.1 iw_Mod ty_Mod tyok_Mod nm_Mod B.2.2.2.1 hK hP hD hS 0 rfl rfl 23 (by decide) (B.2.2.2.2.1 _ L_Mod_80) (fun _ h9 => h9) rfl B.2.2.2.2.2.2.2.2.1 rfl (by decide +kernel) rfl rfl (by rw [hn23]; decide) d_Mod_init_190 (fun H locs hP hD hS => ?_)
  obtain ⟨fs24, hf24⟩ : ∃ z : List Value, z = fs23.set 23 (.ref q24) := ⟨_, rfl⟩
  have hn24 : fs24.length = 53 := by rw [hf24, List.length_set]; exact hn23
  have hP : va_P D vwCl ((h0, .inr (8, fs24)) :: tl24) H := by rw [hf24]; exact hP
  have hD : va_D A ((h0, .inr (8, fs24)) :: tl24) := by rw [hf24]; exact hD
  have g3 : fs24[3]? = some (.ref q4) := by rw [hf24, List.getElem?_set_ne (by decide)]; exact g3
  have ef24 : fs24 = [.ref q1, .ref q2, .ref q3, .ref q4, .ref q5, .ref q6, .ref q7, .ref q8, .ref q9, .ref q10, .ref q11, .ref q12, .ref q13, .ref q14, .ref q15, .ref q16, .ref q17, .ref q18, .ref q19, .ref q20, .ref q21, .ref q22, .ref q23, .ref q24, .null, .null, .null, .null, .null, .null, .null, .null, .null, .null, .null, .null, .null, .null, .null, .null, .null, .null, .int 0, .int 0, .int 0, .int 0, .int 0, .int 0, .int 0, .int 0, .int 0, .int 0, .int 0] := by rw [hf24, ef23]; rfl
  refine lv_aload_n hx hb d_Mod_init_193 rfl (lv_at hl 0 rfl) ?_
  refine lv_bipush (v := 16) hx hb d_Mod_init_194 (by decide) ?_
  refine va_newa (atype := .int) (ty := .int) (a0 := (16, .inl (fun _ => 0))) hx hb (B.2.2.2.2.1 _ ed_a0) rfl hK hP hD hS hA (fun _ => rfl) (by decide) (N' := 16) (by decide) (by decide) (Nat.le_of_ble_eq_true rfl) (Nat.le_of_ble_eq_true rfl) d_Mod_init_196 (fun q25 cA H hKn hP hD hS => ?_)
  have hce := ed_caE 0 hKn rfl
  subst hce
  clear hKn
  refine W.widen (k := 25) (n := 324) (by decide) (by decide) ?_
  obtain ⟨tl25, ht25⟩ : ∃ z : va_W, z = tl24 ++ [(q25, .inl (ca 0, 16, .inl (fun _ => 0)))] := ⟨_, rfl⟩
  have hm25 : tl25.length = 25 := by rw [ht25, List.length_append, hm24]; rfl
  have hP : va_P D vwCl ((h0, .inr (8, fs24)) :: tl25) H := by rw [ht25]; exact hP
  have hD : va_D A ((h0, .inr (8, fs24)) :: tl25) := by rw [ht25]; exact hD
  have hr25 : tl25[24]? = some (q25, .inl (ca 0, 16, .inl (fun _ => 0))) := by rw [ht25, List.getElem?_append_right (by rw [hm24]; decide), hm24]; rfl
  have v3 : tl25[3]? = some (q4, .inl (ca 0, 32, .inl (fun _ => 0))) := by rw [ht25, List.getElem?_append_left (by rw [hm24]; decide)]; exact v3
  have et25 : tl25 = [(q1, .inl (ca 0, 4, .inl (fun _ => 0))), (q2, .inl (ca 0, 4, .inl (fun _ => 0))), (q3, .inl (ca 0, 4, .inl (fun _ => 0))), (q4, .inl (ca 0, 32, .inl (fun _ => 0))), (q5, .inl (ca 0, 32, .inl (fun _ => 0))), (q6, .inl (ca 0, 8, .inl (fun _ => 0))), (q7, .inl (ca 0, 8, .inl (fun _ => 0))), (q8, .inl (ca 0, 8, .inl (fun _ => 0))), (q9, .inl (ca 0, 8, .inl (fun _ => 0))), (q10, .inl (ca 0, 8, .inl (fun _ => 0))), (q11, .inl (ca 0, 8, .inl (fun _ => 0))), (q12, .inl (ca 0, 8, .inl (fun _ => 0))), (q13, .inl (ca 0, 8, .inl (fun _ => 0))), (q14, .inl (ca 0, 8, .inl (fun _ => 0))), (q15, .inl (ca 0, 8, .inl (fun _ => 0))), (q16, .inl (ca 0, 8, .inl (fun _ => 0))), (q17, .inl (ca 0, 8, .inl (fun _ => 0))), (q18, .inl (ca 0, 24, .inl (fun _ => 0))), (q19, .inl (ca 0, 32, .inl (fun _ => 0))), (q20, .inl (ca 6, 16, .inl (fun _ => 0))), (q21, .inl (ca 6, 16, .inl (fun _ => 0))), (q22, .inl (ca 6, 16, .inl (fun _ => 0))), (q23, .inl (ca 0, 16, .inl (fun _ => 0))), (q24, .inl (ca 0, 16, .inl (fun _ => 0))), (q25, .inl (ca 0, 16, .inl (fun _ => 0)))] := by rw [ht25, et24]; rfl
  refine va_putF (D := D) (ci := 8) (v := .ref q25) (ty := .array .int) (C := "ExecutiveDeskModel") (T := T_Mod) (N := 53) hx hb B.2.2.2.2.1 iw_Mod ty_Mod tyok_Mod nm_Mod B.2.2.2.1 hK hP hD hS 0 rfl rfl 24 (by decide) (B.2.2.2.2.1 _ L_Mod_83) (fun _ h9 => h9) rfl B.2.2.2.2.2.2.2.2.1 rfl (by decide +kernel) rfl rfl (by rw [hn24]; decide) d_Mod_init_198 (fun H locs hP hD hS => ?_)
  obtain ⟨fs25, hf25⟩ : ∃ z : List Value, z = fs24.set 24 (.ref q25) := ⟨_, rfl⟩
  have hn25 : fs25.length = 53 := by rw [hf25, List.length_set]; exact hn24
  have hP : va_P D vwCl ((h0, .inr (8, fs25)) :: tl25) H := by rw [hf25]; exact hP
  have hD : va_D A ((h0, .inr (8, fs25)) :: tl25) := by rw [hf25]; exact hD
  have g3 : fs25[3]? = some (.ref q4) := by rw [hf25, List.getElem?_set_ne (by decide)]; exact g3
  have ef25 : fs25 = [.ref q1, .ref q2, .ref q3, .ref q4, .ref q5, .ref q6, .ref q7, .ref q8, .ref q9, .ref q10, .ref q11, .ref q12, .ref q13, .ref q14, .ref q15, .ref q16, .ref q17, .ref q18, .ref q19, .ref q20, .ref q21, .ref q22, .ref q23, .ref q24, .ref q25, .null, .null, .null, .null, .null, .null, .null, .null, .null, .null, .null, .null, .null, .null, .null, .null, .null, .int 0, .int 0, .int 0, .int 0, .int 0, .int 0, .int 0, .int 0, .int 0, .int 0, .int 0] := by rw [hf25, ef24]; rfl
  refine lv_aload_n hx hb d_Mod_init_201 rfl (lv_at hl 0 rfl) ?_
  refine lv_bipush (v := 16) hx hb d_Mod_init_202 (by decide) ?_
  refine va_newa (atype := .int) (ty := .int) (a0 := (16, .inl (fun _ => 0))) hx hb (B.2.2.2.2.1 _ ed_a0) rfl hK hP hD hS hA (fun _ => rfl) (by decide) (N' := 16) (by decide) (by decide) (Nat.le_of_ble_eq_true rfl) (Nat.le_of_ble_eq_true rfl) d_Mod_init_204 (fun q26 cA H hKn hP hD hS => ?_)
  have hce := ed_caE 0 hKn rfl
  subst hce
  clear hKn
  refine W.widen (k := 26) (n := 340) (by decide) (by decide) ?_
  obtain ⟨tl26, ht26⟩ : ∃ z : va_W, z = tl25 ++ [(q26, .inl (ca 0, 16, .inl (fun _ => 0)))] := ⟨_, rfl⟩
  have hm26 : tl26.length = 26 := by rw [ht26, List.length_append, hm25]; rfl
  have hP : va_P D vwCl ((h0, .inr (8, fs25)) :: tl26) H := by rw [ht26]; exact hP
  have hD : va_D A ((h0, .inr (8, fs25)) :: tl26) := by rw [ht26]; exact hD
  have hr26 : tl26[25]? = some (q26, .inl (ca 0, 16, .inl (fun _ => 0))) := by rw [ht26, List.getElem?_append_right (by rw [hm25]; decide), hm25]; rfl
  have v3 : tl26[3]? = some (q4, .inl (ca 0, 32, .inl (fun _ => 0))) := by rw [ht26, List.getElem?_append_left (by rw [hm25]; decide)]; exact v3
  have et26 : tl26 = [(q1, .inl (ca 0, 4, .inl (fun _ => 0))), (q2, .inl (ca 0, 4, .inl (fun _ => 0))), (q3, .inl (ca 0, 4, .inl (fun _ => 0))), (q4, .inl (ca 0, 32, .inl (fun _ => 0))), (q5, .inl (ca 0, 32, .inl (fun _ => 0))), (q6, .inl (ca 0, 8, .inl (fun _ => 0))), (q7, .inl (ca 0, 8, .inl (fun _ => 0))), (q8, .inl (ca 0, 8, .inl (fun _ => 0))), (q9, .inl (ca 0, 8, .inl (fun _ => 0))), (q10, .inl (ca 0, 8, .inl (fun _ => 0))), (q11, .inl (ca 0, 8, .inl (fun _ => 0))), (q12, .inl (ca 0, 8, .inl (fun _ => 0))), (q13, .inl (ca 0, 8, .inl (fun _ => 0))), (q14, .inl (ca 0, 8, .inl (fun _ => 0))), (q15, .inl (ca 0, 8, .inl (fun _ => 0))), (q16, .inl (ca 0, 8, .inl (fun _ => 0))), (q17, .inl (ca 0, 8, .inl (fun _ => 0))), (q18, .inl (ca 0, 24, .inl (fun _ => 0))), (q19, .inl (ca 0, 32, .inl (fun _ => 0))), (q20, .inl (ca 6, 16, .inl (fun _ => 0))), (q21, .inl (ca 6, 16, .inl (fun _ => 0))), (q22, .inl (ca 6, 16, .inl (fun _ => 0))), (q23, .inl (ca 0, 16, .inl (fun _ => 0))), (q24, .inl (ca 0, 16, .inl (fun _ => 0))), (q25, .inl (ca 0, 16, .inl (fun _ => 0))), (q26, .inl (ca 0, 16, .inl (fun _ => 0)))] := by rw [ht26, et25]; rfl
  refine va_putF (D := D) (ci := 8) (v := .ref q26) (ty := .array .int) (C := "ExecutiveDeskModel") (T := T_Mod) (N := 53) hx hb B.2.2.2.2.1 iw_Mod ty_Mod tyok_Mod nm_Mod B.2.2.2.1 hK hP hD hS 0 rfl rfl 25 (by decide) (B.2.2.2.2.1 _ L_Mod_86) (fun _ h9 => h9) rfl B.2.2.2.2.2.2.2.2.1 rfl (by decide +kernel) rfl rfl (by rw [hn25]; decide) d_Mod_init_206 (fun H locs hP hD hS => ?_)
  obtain ⟨fs26, hf26⟩ : ∃ z : List Value, z = fs25.set 25 (.ref q26) := ⟨_, rfl⟩
  have hn26 : fs26.length = 53 := by rw [hf26, List.length_set]; exact hn25
  have hP : va_P D vwCl ((h0, .inr (8, fs26)) :: tl26) H := by rw [hf26]; exact hP
  have hD : va_D A ((h0, .inr (8, fs26)) :: tl26) := by rw [hf26]; exact hD
  have g3 : fs26[3]? = some (.ref q4) := by rw [hf26, List.getElem?_set_ne (by decide)]; exact g3
  have ef26 : fs26 = [.ref q1, .ref q2, .ref q3, .ref q4, .ref q5, .ref q6, .ref q7, .ref q8, .ref q9, .ref q10, .ref q11, .ref q12, .ref q13, .ref q14, .ref q15, .ref q16, .ref q17, .ref q18, .ref q19, .ref q20, .ref q21, .ref q22, .ref q23, .ref q24, .ref q25, .ref q26, .null, .null, .null, .null, .null, .null, .null, .null, .null, .null, .null, .null, .null, .null, .null, .null, .int 0, .int 0, .int 0, .int 0, .int 0, .int 0, .int 0, .int 0, .int 0, .int 0, .int 0] := by rw [hf26, ef25]; rfl
  refine lv_aload_n hx hb d_Mod_init_209 rfl (lv_at hl 0 rfl) ?_
  refine lv_bipush (v := 16) hx hb d_Mod_init_210 (by decide) ?_
  refine va_newa (atype := .int) (ty := .int) (a0 := (16, .inl (fun _ => 0))) hx hb (B.2.2.2.2.1 _ ed_a0) rfl hK hP hD hS hA (fun _ => rfl) (by decide) (N' := 16) (by decide) (by decide) (Nat.le_of_ble_eq_true rfl) (Nat.le_of_ble_eq_true rfl) d_Mod_init_212 (fun q27 cA H hKn hP hD hS => ?_)
  have hce := ed_caE 0 hKn rfl
  subst hce
  clear hKn
  refine W.widen (k := 27) (n := 356) (by decide) (by decide) ?_
  obtain ⟨tl27, ht27⟩ : ∃ z : va_W, z = tl26 ++ [(q27, .inl (ca 0, 16, .inl (fun _ => 0)))] := ⟨_, rfl⟩
  have hm27 : tl27.length = 27 := by rw [ht27, List.length_append, hm26]; rfl
  have hP : va_P D vwCl ((h0, .inr (8, fs26)) :: tl27) H := by rw [ht27]; exact hP
  have hD : va_D A ((h0, .inr (8, fs26)) :: tl27) := by rw [ht27]; exact hD
  have hr27 : tl27[26]? = some (q27, .inl (ca 0, 16, .inl (fun _ => 0))) := by rw [ht27, List.getElem?_append_right (by rw [hm26]; decide), hm26]; rfl
  have v3 : tl27[3]? = some (q4, .inl (ca 0, 32, .inl (fun _ => 0))) := by rw [ht27, List.getElem?_append_left (by rw [hm26]; decide)]; exact v3
  have et27 : tl27 = [(q1, .inl (ca 0, 4, .inl (fun _ => 0))), (q2, .inl (ca 0, 4, .inl (fun _ => 0))), (q3, .inl (ca 0, 4, .inl (fun _ => 0))), (q4, .inl (ca 0, 32, .inl (fun _ => 0))), (q5, .inl (ca 0, 32, .inl (fun _ => 0))), (q6, .inl (ca 0, 8, .inl (fun _ => 0))), (q7, .inl (ca 0, 8, .inl (fun _ => 0))), (q8, .inl (ca 0, 8, .inl (fun _ => 0))), (q9, .inl (ca 0, 8, .inl (fun _ => 0))), (q10, .inl (ca 0, 8, .inl (fun _ => 0))), (q11, .inl (ca 0, 8, .inl (fun _ => 0))), (q12, .inl (ca 0, 8, .inl (fun _ => 0))), (q13, .inl (ca 0, 8, .inl (fun _ => 0))), (q14, .inl (ca 0, 8, .inl (fun _ => 0))), (q15, .inl (ca 0, 8, .inl (fun _ => 0))), (q16, .inl (ca 0, 8, .inl (fun _ => 0))), (q17, .inl (ca 0, 8, .inl (fun _ => 0))), (q18, .inl (ca 0, 24, .inl (fun _ => 0))), (q19, .inl (ca 0, 32, .inl (fun _ => 0))), (q20, .inl (ca 6, 16, .inl (fun _ => 0))), (q21, .inl (ca 6, 16, .inl (fun _ => 0))), (q22, .inl (ca 6, 16, .inl (fun _ => 0))), (q23, .inl (ca 0, 16, .inl (fun _ => 0))), (q24, .inl (ca 0, 16, .inl (fun _ => 0))), (q25, .inl (ca 0, 16, .inl (fun _ => 0))), (q26, .inl (ca 0, 16, .inl (fun _ => 0))), (q27, .inl (ca 0, 16, .inl (fun _ => 0)))] := by rw [ht27, et26]; rfl
  refine va_putF (D := D) (ci := 8) (v := .ref q27) (ty := .array .int) (C := "ExecutiveDeskModel") (T := T_Mod) (N := 53) hx hb B.2.2.2.2.1 iw_Mod ty_Mod tyok_Mod nm_Mod B.2.2.2.1 hK hP hD hS 0 rfl rfl 26 (by decide) (B.2.2.2.2.1 _ L_Mod_89) (fun _ h9 => h9) rfl B.2.2.2.2.2.2.2.2.1 rfl (by decide +kernel) rfl rfl (by rw [hn26]; decide) d_Mod_init_214 (fun H locs hP hD hS => ?_)
  obtain ⟨fs27, hf27⟩ : ∃ z : List Value, z = fs26.set 26 (.ref q27) := ⟨_, rfl⟩
  have hn27 : fs27.length = 53 := by rw [hf27, List.length_set]; exact hn26
  have hP : va_P D vwCl ((h0, .inr (8, fs27)) :: tl27) H := by rw [hf27]; exact hP
  have hD : va_D A ((h0, .inr (8, fs27)) :: tl27) := by rw [hf27]; exact hD
  have g3 : fs27[3]? = some (.ref q4) := by rw [hf27, List.getElem?_set_ne (by decide)]; exact g3
  have ef27 : fs27 = [.ref q1, .ref q2, .ref q3, .ref q4, .ref q5, .ref q6, .ref q7, .ref q8, .ref q9, .ref q10, .ref q11, .ref q12, .ref q13, .ref q14, .ref q15, .ref q16, .ref q17, .ref q18, .ref q19, .ref q20, .ref q21, .ref q22, .ref q23, .ref q24, .ref q25, .ref q26, .ref q27, .null, .null, .null, .null, .null, .null, .null, .null, .null, .null, .null, .null, .null, .null, .null, .int 0, .int 0, .int 0, .int 0, .int 0, .int 0, .int 0, .int 0, .int 0, .int 0, .int 0] := by rw [hf27, ef26]; rfl
  refine lv_aload_n hx hb d_Mod_init_217 rfl (lv_at hl 0 rfl) ?_
  refine lv_bipush (v := 16) hx hb d_Mod_init_218 (by decide) ?_
  refine va_newa (atype := .int) (ty := .int) (a0 := (16, .inl (fun _ => 0))) hx hb (B.2.2.2.2.1 _ ed_a0) rfl hK hP hD hS hA (fun _ => rfl) (by decide) (N' := 16) (by decide) (by decide) (Nat.le_of_ble_eq_true rfl) (Nat.le_of_ble_eq_true rfl) d_Mod_init_220 (fun q28 cA H hKn hP hD hS => ?_)
  have hce := ed_caE 0 hKn rfl
  subst hce
  clear hKn
  refine W.widen (k := 28) (n := 372) (by decide) (by decide) ?_
  obtain ⟨tl28, ht28⟩ : ∃ z : va_W, z = tl27 ++ [(q28, .inl (ca 0, 16, .inl (fun _ => 0)))] := ⟨_, rfl⟩
  have hm28 : tl28.length = 28 := by rw [ht28, List.length_append, hm27]; rfl
  have hP : va_P D vwCl ((h0, .inr (8, fs27)) :: tl28) H := by rw [ht28]; exact hP
  have hD : va_D A ((h0, .inr (8, fs27)) :: tl28) := by rw [ht28]; exact hD
  have hr28 : tl28[27]? = some (q28, .inl (ca 0, 16, .inl (fun _ => 0))) := by rw [ht28, List.getElem?_append_right (by rw [hm27]; decide), hm27]; rfl
  have v3 : tl28[3]? = some (q4, .inl (ca 0, 32, .inl (fun _ => 0))) := by rw [ht28, List.getElem?_append_left (by rw [hm27]; decide)]; exact v3
  have et28 : tl28 = [(q1, .inl (ca 0, 4, .inl (fun _ => 0))), (q2, .inl (ca 0, 4, .inl (fun _ => 0))), (q3, .inl (ca 0, 4, .inl (fun _ => 0))), (q4, .inl (ca 0, 32, .inl (fun _ => 0))), (q5, .inl (ca 0, 32, .inl (fun _ => 0))), (q6, .inl (ca 0, 8, .inl (fun _ => 0))), (q7, .inl (ca 0, 8, .inl (fun _ => 0))), (q8, .inl (ca 0, 8, .inl (fun _ => 0))), (q9, .inl (ca 0, 8, .inl (fun _ => 0))), (q10, .inl (ca 0, 8, .inl (fun _ => 0))), (q11, .inl (ca 0, 8, .inl (fun _ => 0))), (q12, .inl (ca 0, 8, .inl (fun _ => 0))), (q13, .inl (ca 0, 8, .inl (fun _ => 0))), (q14, .inl (ca 0, 8, .inl (fun _ => 0))), (q15, .inl (ca 0, 8, .inl (fun _ => 0))), (q16, .inl (ca 0, 8, .inl (fun _ => 0))), (q17, .inl (ca 0, 8, .inl (fun _ => 0))), (q18, .inl (ca 0, 24, .inl (fun _ => 0))), (q19, .inl (ca 0, 32, .inl (fun _ => 0))), (q20, .inl (ca 6, 16, .inl (fun _ => 0))), (q21, .inl (ca 6, 16, .inl (fun _ => 0))), (q22, .inl (ca 6, 16, .inl (fun _ => 0))), (q23, .inl (ca 0, 16, .inl (fun _ => 0))), (q24, .inl (ca 0, 16, .inl (fun _ => 0))), (q25, .inl (ca 0, 16, .inl (fun _ => 0))), (q26, .inl (ca 0, 16, .inl (fun _ => 0))), (q27, .inl (ca 0, 16, .inl (fun _ => 0))), (q28, .inl (ca 0, 16, .inl (fun _ => 0)))] := by rw [ht28, et27]; rfl
  refine va_putF (D := D) (ci := 8) (v := .ref q28) (ty := .array .int) (C := "ExecutiveDeskModel") (T := T_Mod) (N := 53) hx hb B.2.2.2.2.1 iw_Mod ty_Mod tyok_Mod nm_Mod B.2.2.2.1 hK hP hD hS 0 rfl rfl 27 (by decide) (B.2.2.2.2.1 _ L_Mod_92) (fun _ h9 => h9) rfl B.2.2.2.2.2.2.2.2.1 rfl (by decide +kernel) rfl rfl (by rw [hn27]; decide) d_Mod_init_222 (fun H locs hP hD hS => ?_)
  obtain ⟨fs28, hf28⟩ : ∃ z : List Value, z = fs27.set 27 (.ref q28) := ⟨_, rfl⟩
  have hn28 : fs28.length = 53 := by rw [hf28, List.length_set]; exact hn27
  have hP : va_P D vwCl ((h0, .inr (8, fs28)) :: tl28) H := by rw [hf28]; exact hP
  have hD : va_D A ((h0, .inr (8, fs28)) :: tl28) := by rw [hf28]; exact hD
  have g3 : fs28[3]? = some (.ref q4) := by rw [hf28, List.getElem?_set_ne (by decide)]; exact g3
  have ef28 : fs28 = [.ref q1, .ref q2, .ref q3, .ref q4, .ref q5, .ref q6, .ref q7, .ref q8, .ref q9, .ref q10, .ref q11, .ref q12, .ref q13, .ref q14, .ref q15, .ref q16, .ref q17, .ref q18, .ref q19, .ref q20, .ref q21, .ref q22, .ref q23, .ref q24, .ref q25, .ref q26, .ref q27, .ref q28, .null, .null, .null, .null, .null, .null, .null, .null, .null, .null, .null, .null, .null, .null, .int 0, .int 0, .int 0, .int 0, .int 0, .int 0, .int 0, .int 0, .int 0, .int 0, .int 0] := by rw [hf28, ef27]; rfl
  refine lv_aload_n hx hb d_Mod_init_225 rfl (lv_at hl 0 rfl) ?_
  refine lv_bipush (v := 64) hx hb d_Mod_init_226 (by decide) ?_
  refine va_newa (atype := .int) (ty := .int) (a0 := (64, .inl (fun _ => 0))) hx hb (B.2.2.2.2.1 _ ed_a0) rfl hK hP hD hS hA (fun _ => rfl) (by decide) (N' := 64) (by decide) (by decide) (Nat.le_of_ble_eq_true rfl) (Nat.le_of_ble_eq_true rfl) d_Mod_init_228 (fun q29 cA H hKn hP hD hS => ?_)
  have hce := ed_caE 0 hKn rfl
  subst hce
  clear hKn
  refine W.widen (k := 29) (n := 436) (by decide) (by decide) ?_
  obtain ⟨tl29, ht29⟩ : ∃ z : va_W, z = tl28 ++ [(q29, .inl (ca 0, 64, .inl (fun _ => 0)))] := ⟨_, rfl⟩
  have hm29 : tl29.length = 29 := by rw [ht29, List.length_append, hm28]; rfl
  have hP : va_P D vwCl ((h0, .inr (8, fs28)) :: tl29) H := by rw [ht29]; exact hP
  have hD : va_D A ((h0, .inr (8, fs28)) :: tl29) := by rw [ht29]; exact hD
  have hr29 : tl29[28]? = some (q29, .inl (ca 0, 64, .inl (fun _ => 0))) := by rw [ht29, List.getElem?_append_right (by rw [hm28]; decide), hm28]; rfl
  have v3 : tl29[3]? = some (q4, .inl (ca 0, 32, .inl (fun _ => 0))) := by rw [ht29, List.getElem?_append_left (by rw [hm28]; decide)]; exact v3
  have et29 : tl29 = [(q1, .inl (ca 0, 4, .inl (fun _ => 0))), (q2, .inl (ca 0, 4, .inl (fun _ => 0))), (q3, .inl (ca 0, 4, .inl (fun _ => 0))), (q4, .inl (ca 0, 32, .inl (fun _ => 0))), (q5, .inl (ca 0, 32, .inl (fun _ => 0))), (q6, .inl (ca 0, 8, .inl (fun _ => 0))), (q7, .inl (ca 0, 8, .inl (fun _ => 0))), (q8, .inl (ca 0, 8, .inl (fun _ => 0))), (q9, .inl (ca 0, 8, .inl (fun _ => 0))), (q10, .inl (ca 0, 8, .inl (fun _ => 0))), (q11, .inl (ca 0, 8, .inl (fun _ => 0))), (q12, .inl (ca 0, 8, .inl (fun _ => 0))), (q13, .inl (ca 0, 8, .inl (fun _ => 0))), (q14, .inl (ca 0, 8, .inl (fun _ => 0))), (q15, .inl (ca 0, 8, .inl (fun _ => 0))), (q16, .inl (ca 0, 8, .inl (fun _ => 0))), (q17, .inl (ca 0, 8, .inl (fun _ => 0))), (q18, .inl (ca 0, 24, .inl (fun _ => 0))), (q19, .inl (ca 0, 32, .inl (fun _ => 0))), (q20, .inl (ca 6, 16, .inl (fun _ => 0))), (q21, .inl (ca 6, 16, .inl (fun _ => 0))), (q22, .inl (ca 6, 16, .inl (fun _ => 0))), (q23, .inl (ca 0, 16, .inl (fun _ => 0))), (q24, .inl (ca 0, 16, .inl (fun _ => 0))), (q25, .inl (ca 0, 16, .inl (fun _ => 0))), (q26, .inl (ca 0, 16, .inl (fun _ => 0))), (q27, .inl (ca 0, 16, .inl (fun _ => 0))), (q28, .inl (ca 0, 16, .inl (fun _ => 0))), (q29, .inl (ca 0, 64, .inl (fun _ => 0)))] := by rw [ht29, et28]; rfl
  refine va_putF (D := D) (ci := 8) (v := .ref q29) (ty := .array .int) (C := "ExecutiveDeskModel") (T := T_Mod) (N := 53) hx hb B.2.2.2.2.1 iw_Mod ty_Mod tyok_Mod nm_Mod B.2.2.2.1 hK hP hD hS 0 rfl rfl 28 (by decide) (B.2.2.2.2.1 _ L_Mod_95) (fun _ h9 => h9) rfl B.2.2.2.2.2.2.2.2.1 rfl (by decide +kernel) rfl rfl (by rw [hn28]; decide) d_Mod_init_230 (fun H locs hP hD hS => ?_)
  obtain ⟨fs29, hf29⟩ : ∃ z : List Value, z = fs28.set 28 (.ref q29) := ⟨_, rfl⟩
  have hn29 : fs29.length = 53 := by rw [hf29, List.length_set]; exact hn28
  have hP : va_P D vwCl ((h0, .inr (8, fs29)) :: tl29) H := by rw [hf29]; exact hP
  have hD : va_D A ((h0, .inr (8, fs29)) :: tl29) := by rw [hf29]; exact hD
  have g3 : fs29[3]? = some (.ref q4) := by rw [hf29, List.getElem?_set_ne (by decide)]; exact g3
  have ef29 : fs29 = [.ref q1, .ref q2, .ref q3, .ref q4, .ref q5, .ref q6, .ref q7, .ref q8, .ref q9, .ref q10, .ref q11, .ref q12, .ref q13, .ref q14, .ref q15, .ref q16, .ref q17, .ref q18, .ref q19, .ref q20, .ref q21, .ref q22, .ref q23, .ref q24, .ref q25, .ref q26, .ref q27, .ref q28, .ref q29, .null, .null, .null, .null, .null, .null, .null, .null, .null, .null, .null, .null, .null, .int 0, .int 0, .int 0, .int 0, .int 0, .int 0, .int 0, .int 0, .int 0, .int 0, .int 0] := by rw [hf29, ef28]; rfl
  refine lv_aload_n hx hb d_Mod_init_233 rfl (lv_at hl 0 rfl) ?_
  refine lv_bipush (v := 64) hx hb d_Mod_init_234 (by decide) ?_
  refine va_newa (atype := .int) (ty := .int) (a0 := (64, .inl (fun _ => 0))) hx hb (B.2.2.2.2.1 _ ed_a0) rfl hK hP hD hS hA (fun _ => rfl) (by decide) (N' := 64) (by decide) (by decide) (Nat.le_of_ble_eq_true rfl) (Nat.le_of_ble_eq_true rfl) d_Mod_init_236 (fun q30 cA H hKn hP hD hS => ?_)
  have hce := ed_caE 0 hKn rfl
  subst hce
  clear hKn
  refine W.widen (k := 30) (n := 500) (by decide) (by decide) ?_
  obtain ⟨tl30, ht30⟩ : ∃ z : va_W, z = tl29 ++ [(q30, .inl (ca 0, 64, .inl (fun _ => 0)))] := ⟨_, rfl⟩
  have hm30 : tl30.length = 30 := by rw [ht30, List.length_append, hm29]; rfl
  have hP : va_P D vwCl ((h0, .inr (8, fs29)) :: tl30) H := by rw [ht30]; exact hP
  have hD : va_D A ((h0, .inr (8, fs29)) :: tl30) := by rw [ht30]; exact hD
  have hr30 : tl30[29]? = some (q30, .inl (ca 0, 64, .inl (fun _ => 0))) := by rw [ht30, List.getElem?_append_right (by rw [hm29]; decide), hm29]; rfl
  have v3 : tl30[3]? = some (q4, .inl (ca 0, 32, .inl (fun _ => 0))) := by rw [ht30, List.getElem?_append_left (by rw [hm29]; decide)]; exact v3
  have et30 : tl30 = [(q1, .inl (ca 0, 4, .inl (fun _ => 0))), (q2, .inl (ca 0, 4, .inl (fun _ => 0))), (q3, .inl (ca 0, 4, .inl (fun _ => 0))), (q4, .inl (ca 0, 32, .inl (fun _ => 0))), (q5, .inl (ca 0, 32, .inl (fun _ => 0))), (q6, .inl (ca 0, 8, .inl (fun _ => 0))), (q7, .inl (ca 0, 8, .inl (fun _ => 0))), (q8, .inl (ca 0, 8, .inl (fun _ => 0))), (q9, .inl (ca 0, 8, .inl (fun _ => 0))), (q10, .inl (ca 0, 8, .inl (fun _ => 0))), (q11, .inl (ca 0, 8, .inl (fun _ => 0))), (q12, .inl (ca 0, 8, .inl (fun _ => 0))), (q13, .inl (ca 0, 8, .inl (fun _ => 0))), (q14, .inl (ca 0, 8, .inl (fun _ => 0))), (q15, .inl (ca 0, 8, .inl (fun _ => 0))), (q16, .inl (ca 0, 8, .inl (fun _ => 0))), (q17, .inl (ca 0, 8, .inl (fun _ => 0))), (q18, .inl (ca 0, 24, .inl (fun _ => 0))), (q19, .inl (ca 0, 32, .inl (fun _ => 0))), (q20, .inl (ca 6, 16, .inl (fun _ => 0))), (q21, .inl (ca 6, 16, .inl (fun _ => 0))), (q22, .inl (ca 6, 16, .inl (fun _ => 0))), (q23, .inl (ca 0, 16, .inl (fun _ => 0))), (q24, .inl (ca 0, 16, .inl (fun _ => 0))), (q25, .inl (ca 0, 16, .inl (fun _ => 0))), (q26, .inl (ca 0, 16, .inl (fun _ => 0))), (q27, .inl (ca 0, 16, .inl (fun _ => 0))), (q28, .inl (ca 0, 16, .inl (fun _ => 0))), (q29, .inl (ca 0, 64, .inl (fun _ => 0))), (q30, .inl (ca 0, 64, .inl (fun _ => 0)))] := by rw [ht30, et29]; rfl
  refine va_putF (D := D) (ci := 8) (v := .ref q30) (ty := .array .int) (C := "ExecutiveDeskModel") (T := T_Mod) (N := 53) hx hb B.2.2.2.2.1 iw_Mod ty_Mod tyok_Mod nm_Mod B.2.2.2.1 hK hP hD hS 0 rfl rfl 29 (by decide) (B.2.2.2.2.1 _ L_Mod_98) (fun _ h9 => h9) rfl B.2.2.2.2.2.2.2.2.1 rfl (by decide +kernel) rfl rfl (by rw [hn29]; decide) d_Mod_init_238 (fun H locs hP hD hS => ?_)
  obtain ⟨fs30, hf30⟩ : ∃ z : List Value, z = fs29.set 29 (.ref q30) := ⟨_, rfl⟩
  have hn30 : fs30.length = 53 := by rw [hf30, List.length_set]; exact hn29
  have hP : va_P D vwCl ((h0, .inr (8, fs30)) :: tl30) H := by rw [hf30]; exact hP
  have hD : va_D A ((h0, .inr (8, fs30)) :: tl30) := by rw [hf30]; exact hD
  have g3 : fs30[3]? = some (.ref q4) := by rw [hf30, List.getElem?_set_ne (by decide)]; exact g3
  have ef30 : fs30 = [.ref q1, .ref q2, .ref q3, .ref q4, .ref q5, .ref q6, .ref q7, .ref q8, .ref q9, .ref q10, .ref q11, .ref q12, .ref q13, .ref q14, .ref q15, .ref q16, .ref q17, .ref q18, .ref q19, .ref q20, .ref q21, .ref q22, .ref q23, .ref q24, .ref q25, .ref q26, .ref q27, .ref q28, .ref q29, .ref q30, .null, .null, .null, .null, .null, .null, .null, .null, .null, .null, .null, .null, .int 0, .int 0, .int 0, .int 0, .int 0, .int 0, .int 0, .int 0, .int 0, .int 0, .int 0] := by rw [hf30, ef29]; rfl
  refine lv_aload_n hx hb d_Mod_init_241 rfl (lv_at hl 0 rfl) ?_
  refine lv_bipush (v := 64) hx hb d_Mod_init_242 (by decide) ?_
  refine va_newa (atype := .int) (ty := .int) (a0 := (64, .inl (fun _ => 0))) hx hb (B.2.2.2.2.1 _ ed_a0) rfl hK hP hD hS hA (fun _ => rfl) (by decide) (N' := 64) (by decide) (by decide) (Nat.le_of_ble_eq_true rfl) (Nat.le_of_ble_eq_true rfl) d_Mod_init_244 (fun q31 cA H hKn hP hD hS => ?_)
  have hce := ed_caE 0 hKn rfl
  subst hce
  clear hKn
  refine W.widen (k := 31) (n := 564) (by decide) (by decide) ?_
  obtain ⟨tl31, ht31⟩ : ∃ z : va_W, z = tl30 ++ [(q31, .inl (ca 0, 64, .inl (fun _ => 0)))] := ⟨_, rfl⟩
  have hm31 : tl31.length = 31 := by rw [ht31, List.length_append, hm30]; rfl
  have hP : va_P D vwCl ((h0, .inr (8, fs30)) :: tl31) H := by rw [ht31]; exact hP
  have hD : va_D A ((h0, .inr (8, fs30)) :: tl31) := by rw [ht31]; exact hD
  have hr31 : tl31[30]? = some (q31, .inl (ca 0, 64, .inl (fun _ => 0))) := by rw [ht31, List.getElem?_append_right (by rw [hm30]; decide), hm30]; rfl
  have v3 : tl31[3]? = some (q4, .inl (ca 0, 32, .inl (fun _ => 0))) := by rw [ht31, List.getElem?_append_left (by rw [hm30]; decide)]; exact v3
  have et31 : tl31 = [(q1, .inl (ca 0, 4, .inl (fun _ => 0))), (q2, .inl (ca 0, 4, .inl (fun _ => 0))), (q3, .inl (ca 0, 4, .inl (fun _ => 0))), (q4, .inl (ca 0, 32, .inl (fun _ => 0))), (q5, .inl (ca 0, 32, .inl (fun _ => 0))), (q6, .inl (ca 0, 8, .inl (fun _ => 0))), (q7, .inl (ca 0, 8, .inl (fun _ => 0))), (q8, .inl (ca 0, 8, .inl (fun _ => 0))), (q9, .inl (ca 0, 8, .inl (fun _ => 0))), (q10, .inl (ca 0, 8, .inl (fun _ => 0))), (q11, .inl (ca 0, 8, .inl (fun _ => 0))), (q12, .inl (ca 0, 8, .inl (fun _ => 0))), (q13, .inl (ca 0, 8, .inl (fun _ => 0))), (q14, .inl (ca 0, 8, .inl (fun _ => 0))), (q15, .inl (ca 0, 8, .inl (fun _ => 0))), (q16, .inl (ca 0, 8, .inl (fun _ => 0))), (q17, .inl (ca 0, 8, .inl (fun _ => 0))), (q18, .inl (ca 0, 24, .inl (fun _ => 0))), (q19, .inl (ca 0, 32, .inl (fun _ => 0))), (q20, .inl (ca 6, 16, .inl (fun _ => 0))), (q21, .inl (ca 6, 16, .inl (fun _ => 0))), (q22, .inl (ca 6, 16, .inl (fun _ => 0))), (q23, .inl (ca 0, 16, .inl (fun _ => 0))), (q24, .inl (ca 0, 16, .inl (fun _ => 0))), (q25, .inl (ca 0, 16, .inl (fun _ => 0))), (q26, .inl (ca 0, 16, .inl (fun _ => 0))), (q27, .inl (ca 0, 16, .inl (fun _ => 0))), (q28, .inl (ca 0, 16, .inl (fun _ => 0))), (q29, .inl (ca 0, 64, .inl (fun _ => 0))), (q30, .inl (ca 0, 64, .inl (fun _ => 0))), (q31, .inl (ca 0, 64, .inl (fun _ => 0)))] := by rw [ht31, et30]; rfl
  refine va_putF (D := D) (ci := 8) (v := .ref q31) (ty := .array .int) (C := "ExecutiveDeskModel") (T := T_Mod) (N := 53) hx hb B.2.2.2.2.1 iw_Mod ty_Mod tyok_Mod nm_Mod B.2.2.2.1 hK hP hD hS 0 rfl rfl 30 (by decide) (B.2.2.2.2.1 _ L_Mod_101) (fun _ h9 => h9) rfl B.2.2.2.2.2.2.2.2.1 rfl (by decide +kernel) rfl rfl (by rw [hn30]; decide) d_Mod_init_246 (fun H locs hP hD hS => ?_)
  obtain ⟨fs31, hf31⟩ : ∃ z : List Value, z = fs30.set 30 (.ref q31) := ⟨_, rfl⟩
  have hn31 : fs31.length = 53 := by rw [hf31, List.length_set]; exact hn30
  have hP : va_P D vwCl ((h0, .inr (8, fs31)) :: tl31) H := by rw [hf31]; exact hP
  have hD : va_D A ((h0, .inr (8, fs31)) :: tl31) := by rw [hf31]; exact hD
  have g3 : fs31[3]? = some (.ref q4) := by rw [hf31, List.getElem?_set_ne (by decide)]; exact g3
  have ef31 : fs31 = [.ref q1, .ref q2, .ref q3, .ref q4, .ref q5, .ref q6, .ref q7, .ref q8, .ref q9, .ref q10, .ref q11, .ref q12, .ref q13, .ref q14, .ref q15, .ref q16, .ref q17, .ref q18, .ref q19, .ref q20, .ref q21, .ref q22, .ref q23, .ref q24, .ref q25, .ref q26, .ref q27, .ref q28, .ref q29, .ref q30, .ref q31, .null, .null, .null, .null, .null, .null, .null, .null, .null, .null, .null, .int 0, .int 0, .int 0, .int 0, .int 0, .int 0, .int 0, .int 0, .int 0, .int 0, .int 0] := by rw [hf31, ef30]; rfl
  refine lv_aload_n hx hb d_Mod_init_249 rfl (lv_at hl 0 rfl) ?_
  refine lv_bipush (v := 8) hx hb d_Mod_init_250 (by decide) ?_
  refine va_newa (atype := .int) (ty := .int) (a0 := (8, .inl (fun _ => 0))) hx hb (B.2.2.2.2.1 _ ed_a0) rfl hK hP hD hS hA (fun _ => rfl) (by decide) (N' := 8) (by decide) (by decide) (Nat.le_of_ble_eq_true rfl) (Nat.le_of_ble_eq_true rfl) d_Mod_init_252 (fun q32 cA H hKn hP hD hS => ?_)
  have hce := ed_caE 0 hKn rfl
  subst hce
  clear hKn
  refine W.widen (k := 32) (n := 572) (by decide) (by decide) ?_
  obtain ⟨tl32, ht32⟩ : ∃ z : va_W, z = tl31 ++ [(q32, .inl (ca 0, 8, .inl (fun _ => 0)))] := ⟨_, rfl⟩
  have hm32 : tl32.length = 32 := by rw [ht32, List.length_append, hm31]; rfl
  have hP : va_P D vwCl ((h0, .inr (8, fs31)) :: tl32) H := by rw [ht32]; exact hP
  have hD : va_D A ((h0, .inr (8, fs31)) :: tl32) := by rw [ht32]; exact hD
  have hr32 : tl32[31]? = some (q32, .inl (ca 0, 8, .inl (fun _ => 0))) := by rw [ht32, List.getElem?_append_right (by rw [hm31]; decide), hm31]; rfl
  have v3 : tl32[3]? = some (q4, .inl (ca 0, 32, .inl (fun _ => 0))) := by rw [ht32, List.getElem?_append_left (by rw [hm31]; decide)]; exact v3
  have et32 : tl32 = [(q1, .inl (ca 0, 4, .inl (fun _ => 0))), (q2, .inl (ca 0, 4, .inl (fun _ => 0))), (q3, .inl (ca 0, 4, .inl (fun _ => 0))), (q4, .inl (ca 0, 32, .inl (fun _ => 0))), (q5, .inl (ca 0, 32, .inl (fun _ => 0))), (q6, .inl (ca 0, 8, .inl (fun _ => 0))), (q7, .inl (ca 0, 8, .inl (fun _ => 0))), (q8, .inl (ca 0, 8, .inl (fun _ => 0))), (q9, .inl (ca 0, 8, .inl (fun _ => 0))), (q10, .inl (ca 0, 8, .inl (fun _ => 0))), (q11, .inl (ca 0, 8, .inl (fun _ => 0))), (q12, .inl (ca 0, 8, .inl (fun _ => 0))), (q13, .inl (ca 0, 8, .inl (fun _ => 0))), (q14, .inl (ca 0, 8, .inl (fun _ => 0))), (q15, .inl (ca 0, 8, .inl (fun _ => 0))), (q16, .inl (ca 0, 8, .inl (fun _ => 0))), (q17, .inl (ca 0, 8, .inl (fun _ => 0))), (q18, .inl (ca 0, 24, .inl (fun _ => 0))), (q19, .inl (ca 0, 32, .inl (fun _ => 0))), (q20, .inl (ca 6, 16, .inl (fun _ => 0))), (q21, .inl (ca 6, 16, .inl (fun _ => 0))), (q22, .inl (ca 6, 16, .inl (fun _ => 0))), (q23, .inl (ca 0, 16, .inl (fun _ => 0))), (q24, .inl (ca 0, 16, .inl (fun _ => 0))), (q25, .inl (ca 0, 16, .inl (fun _ => 0))), (q26, .inl (ca 0, 16, .inl (fun _ => 0))), (q27, .inl (ca 0, 16, .inl (fun _ => 0))), (q28, .inl (ca 0, 16, .inl (fun _ => 0))), (q29, .inl (ca 0, 64, .inl (fun _ => 0))), (q30, .inl (ca 0, 64, .inl (fun _ => 0))), (q31, .inl (ca 0, 64, .inl (fun _ => 0))), (q32, .inl (ca 0, 8, .inl (fun _ => 0)))] := by rw [ht32, et31]; rfl
  refine va_putF (D := D) (ci := 8) (v := .ref q32) (ty := .array .int) (C := "ExecutiveDeskModel") (T := T_Mod) (N := 53) hx hb B.2.2.2.2.1 iw_Mod ty_Mod tyok_Mod nm_Mod B.2.2.2.1 hK hP hD hS 0 rfl rfl 31 (by decide) (B.2.2.2.2.1 _ L_Mod_104) (fun _ h9 => h9) rfl B.2.2.2.2.2.2.2.2.1 rfl (by decide +kernel) rfl rfl (by rw [hn31]; decide) d_Mod_init_254 (fun H locs hP hD hS => ?_)
  obtain ⟨fs32, hf32⟩ : ∃ z : List Value, z = fs31.set 31 (.ref q32) := ⟨_, rfl⟩
  have hn32 : fs32.length = 53 := by rw [hf32, List.length_set]; exact hn31
  have hP : va_P D vwCl ((h0, .inr (8, fs32)) :: tl32) H := by rw [hf32]; exact hP
  have hD : va_D A ((h0, .inr (8, fs32)) :: tl32) := by rw [hf32]; exact hD
  have g3 : fs32[3]? = some (.ref q4) := by rw [hf32, List.getElem?_set_ne (by decide)]; exact g3
  have g31 : fs32[31]? = some (.ref q32) := by rw [hf32, List.getElem?_set_self (by rw [hn31]; decide)]
  have v31 := hr32
  have ef32 : fs32 = [.ref q1, .ref q2, .ref q3, .ref q4, .ref q5, .ref q6, .ref q7, .ref q8, .ref q9, .ref q10, .ref q11, .ref q12, .ref q13, .ref q14, .ref q15, .ref q16, .ref q17, .ref q18, .ref q19, .ref q20, .ref q21, .ref q22, .ref q23, .ref q24, .ref q25, .ref q26, .ref q27, .ref q28, .ref q29, .ref q30, .ref q31, .ref q32, .null, .null, .null, .null, .null, .null, .null, .null, .null, .null, .int 0, .int 0, .int 0, .int 0, .int 0, .int 0, .int 0, .int 0, .int 0, .int 0, .int 0] := by rw [hf32, ef31]; rfl
  refine lv_aload_n hx hb d_Mod_init_257 rfl (lv_at hl 0 rfl) ?_
  refine lv_bipush (v := 8) hx hb d_Mod_init_258 (by decide) ?_
  refine va_newa (atype := .int) (ty := .int) (a0 := (8, .inl (fun _ => 0))) hx hb (B.2.2.2.2.1 _ ed_a0) rfl hK hP hD hS hA (fun _ => rfl) (by decide) (N' := 8) (by decide) (by decide) (Nat.le_of_ble_eq_true rfl) (Nat.le_of_ble_eq_true rfl) d_Mod_init_260 (fun q33 cA H hKn hP hD hS => ?_)
  have hce := ed_caE 0 hKn rfl
  subst hce
  clear hKn
  refine W.widen (k := 33) (n := 580) (by decide) (by decide) ?_
  obtain ⟨tl33, ht33⟩ : ∃ z : va_W, z = tl32 ++ [(q33, .inl (ca 0, 8, .inl (fun _ => 0)))] := ⟨_, rfl⟩
  have hm33 : tl33.length = 33 := by rw [ht33, List.length_append, hm32]; rfl
  have hP : va_P D vwCl ((h0, .inr (8, fs32)) :: tl33) H := by rw [ht33]; exact hP
  have hD : va_D A ((h0, .inr (8, fs32)) :: tl33) := by rw [ht33]; exact hD
  have hr33 : tl33[32]? = some (q33, .inl (ca 0, 8, .inl (fun _ => 0))) := by rw [ht33, List.getElem?_append_right (by rw [hm32]; decide), hm32]; rfl
  have v3 : tl33[3]? = some (q4, .inl (ca 0, 32, .inl (fun _ => 0))) := by rw [ht33, List.getElem?_append_left (by rw [hm32]; decide)]; exact v3
  have v31 : tl33[31]? = some (q32, .inl (ca 0, 8, .inl (fun _ => 0))) := by rw [ht33, List.getElem?_append_left (by rw [hm32]; decide)]; exact v31
  have et33 : tl33 = [(q1, .inl (ca 0, 4, .inl (fun _ => 0))), (q2, .inl (ca 0, 4, .inl (fun _ => 0))), (q3, .inl (ca 0, 4, .inl (fun _ => 0))), (q4, .inl (ca 0, 32, .inl (fun _ => 0))), (q5, .inl (ca 0, 32, .inl (fun _ => 0))), (q6, .inl (ca 0, 8, .inl (fun _ => 0))), (q7, .inl (ca 0, 8, .inl (fun _ => 0))), (q8, .inl (ca 0, 8, .inl (fun _ => 0))), (q9, .inl (ca 0, 8, .inl (fun _ => 0))), (q10, .inl (ca 0, 8, .inl (fun _ => 0))), (q11, .inl (ca 0, 8, .inl (fun _ => 0))), (q12, .inl (ca 0, 8, .inl (fun _ => 0))), (q13, .inl (ca 0, 8, .inl (fun _ => 0))), (q14, .inl (ca 0, 8, .inl (fun _ => 0))), (q15, .inl (ca 0, 8, .inl (fun _ => 0))), (q16, .inl (ca 0, 8, .inl (fun _ => 0))), (q17, .inl (ca 0, 8, .inl (fun _ => 0))), (q18, .inl (ca 0, 24, .inl (fun _ => 0))), (q19, .inl (ca 0, 32, .inl (fun _ => 0))), (q20, .inl (ca 6, 16, .inl (fun _ => 0))), (q21, .inl (ca 6, 16, .inl (fun _ => 0))), (q22, .inl (ca 6, 16, .inl (fun _ => 0))), (q23, .inl (ca 0, 16, .inl (fun _ => 0))), (q24, .inl (ca 0, 16, .inl (fun _ => 0))), (q25, .inl (ca 0, 16, .inl (fun _ => 0))), (q26, .inl (ca 0, 16, .inl (fun _ => 0))), (q27, .inl (ca 0, 16, .inl (fun _ => 0))), (q28, .inl (ca 0, 16, .inl (fun _ => 0))), (q29, .inl (ca 0, 64, .inl (fun _ => 0))), (q30, .inl (ca 0, 64, .inl (fun _ => 0))), (q31, .inl (ca 0, 64, .inl (fun _ => 0))), (q32, .inl (ca 0, 8, .inl (fun _ => 0))), (q33, .inl (ca 0, 8, .inl (fun _ => 0)))] := by rw [ht33, et32]; rfl
  refine va_putF (D := D) (ci := 8) (v := .ref q33) (ty := .array .int) (C := "ExecutiveDeskModel") (T := T_Mod) (N := 53) hx hb B.2.2.2.2.1 iw_Mod ty_Mod tyok_Mod nm_Mod B.2.2.2.1 hK hP hD hS 0 rfl rfl 32 (by decide) (B.2.2.2.2.1 _ L_Mod_107) (fun _ h9 => h9) rfl B.2.2.2.2.2.2.2.2.1 rfl (by decide +kernel) rfl rfl (by rw [hn32]; decide) d_Mod_init_262 (fun H locs hP hD hS => ?_)
  obtain ⟨fs33, hf33⟩ : ∃ z : List Value, z = fs32.set 32 (.ref q33) := ⟨_, rfl⟩
  have hn33 : fs33.length = 53 := by rw [hf33, List.length_set]; exact hn32
  have hP : va_P D vwCl ((h0, .inr (8, fs33)) :: tl33) H := by rw [hf33]; exact hP
  have hD : va_D A ((h0, .inr (8, fs33)) :: tl33) := by rw [hf33]; exact hD
  have g3 : fs33[3]? = some (.ref q4) := by rw [hf33, List.getElem?_set_ne (by decide)]; exact g3
  have g31 : fs33[31]? = some (.ref q32) := by rw [hf33, List.getElem?_set_ne (by decide)]; exact g31
  have ef33 : fs33 = [.ref q1, .ref q2, .ref q3, .ref q4, .ref q5, .ref q6, .ref q7, .ref q8, .ref q9, .ref q10, .ref q11, .ref q12, .ref q13, .ref q14, .ref q15, .ref q16, .ref q17, .ref q18, .ref q19, .ref q20, .ref q21, .ref q22, .ref q23, .ref q24, .ref q25, .ref q26, .ref q27, .ref q28, .ref q29, .ref q30, .ref q31, .ref q32, .ref q33, .null, .null, .null, .null, .null, .null, .null, .null, .null, .int 0, .int 0, .int 0, .int 0, .int 0, .int 0, .int 0, .int 0, .int 0, .int 0, .int 0] := by rw [hf33, ef32]; rfl
  refine lv_aload_n hx hb d_Mod_init_265 rfl (lv_at hl 0 rfl) ?_
  refine lv_bipush (v := 8) hx hb d_Mod_init_266 (by decide) ?_
  refine va_newa (atype := .int) (ty := .int) (a0 := (8, .inl (fun _ => 0))) hx hb (B.2.2.2.2.1 _ ed_a0) rfl hK hP hD hS hA (fun _ => rfl) (by decide) (N' := 8) (by decide) (by decide) (Nat.le_of_ble_eq_true rfl) (Nat.le_of_ble_eq_true rfl) d_Mod_init_268 (fun q34 cA H hKn hP hD hS => ?_)
  have hce := ed_caE 0 hKn rfl
  subst hce
  clear hKn
  refine W.widen (k := 34) (n := 588) (by decide) (by decide) ?_
  obtain ⟨tl34, ht34⟩ : ∃ z : va_W, z = tl33 ++ [(q34, .inl (ca 0, 8, .inl (fun _ => 0)))] := ⟨_, rfl⟩
  have hm34 : tl34.length = 34 := by rw [ht34, List.length_append, hm33]; rfl
  have hP : va_P D vwCl ((h0, .inr (8, fs33)) :: tl34) H := by rw [ht34]; exact hP
  have hD : va_D A ((h0, .inr (8, fs33)) :: tl34) := by rw [ht34]; exact hD
  have hr34 : tl34[33]? = some (q34, .inl (ca 0, 8, .inl (fun _ => 0))) := by rw [ht34, List.getElem?_append_right (by rw [hm33]; decide), hm33]; rfl
  have v3 : tl34[3]? = some (q4, .inl (ca 0, 32, .inl (fun _ => 0))) := by rw [ht34, List.getElem?_append_left (by rw [hm33]; decide)]; exact v3
  have v31 : tl34[31]? = some (q32, .inl (ca 0, 8, .inl (fun _ => 0))) := by rw [ht34, List.getElem?_append_left (by rw [hm33]; decide)]; exact v31
  have et34 : tl34 = [(q1, .inl (ca 0, 4, .inl (fun _ => 0))), (q2, .inl (ca 0, 4, .inl (fun _ => 0))), (q3, .inl (ca 0, 4, .inl (fun _ => 0))), (q4, .inl (ca 0, 32, .inl (fun _ => 0))), (q5, .inl (ca 0, 32, .inl (fun _ => 0))), (q6, .inl (ca 0, 8, .inl (fun _ => 0))), (q7, .inl (ca 0, 8, .inl (fun _ => 0))), (q8, .inl (ca 0, 8, .inl (fun _ => 0))), (q9, .inl (ca 0, 8, .inl (fun _ => 0))), (q10, .inl (ca 0, 8, .inl (fun _ => 0))), (q11, .inl (ca 0, 8, .inl (fun _ => 0))), (q12, .inl (ca 0, 8, .inl (fun _ => 0))), (q13, .inl (ca 0, 8, .inl (fun _ => 0))), (q14, .inl (ca 0, 8, .inl (fun _ => 0))), (q15, .inl (ca 0, 8, .inl (fun _ => 0))), (q16, .inl (ca 0, 8, .inl (fun _ => 0))), (q17, .inl (ca 0, 8, .inl (fun _ => 0))), (q18, .inl (ca 0, 24, .inl (fun _ => 0))), (q19, .inl (ca 0, 32, .inl (fun _ => 0))), (q20, .inl (ca 6, 16, .inl (fun _ => 0))), (q21, .inl (ca 6, 16, .inl (fun _ => 0))), (q22, .inl (ca 6, 16, .inl (fun _ => 0))), (q23, .inl (ca 0, 16, .inl (fun _ => 0))), (q24, .inl (ca 0, 16, .inl (fun _ => 0))), (q25, .inl (ca 0, 16, .inl (fun _ => 0))), (q26, .inl (ca 0, 16, .inl (fun _ => 0))), (q27, .inl (ca 0, 16, .inl (fun _ => 0))), (q28, .inl (ca 0, 16, .inl (fun _ => 0))), (q29, .inl (ca 0, 64, .inl (fun _ => 0))), (q30, .inl (ca 0, 64, .inl (fun _ => 0))), (q31, .inl (ca 0, 64, .inl (fun _ => 0))), (q32, .inl (ca 0, 8, .inl (fun _ => 0))), (q33, .inl (ca 0, 8, .inl (fun _ => 0))), (q34, .inl (ca 0, 8, .inl (fun _ => 0)))] := by rw [ht34, et33]; rfl
  refine va_putF (D := D) (ci := 8) (v := .ref q34) (ty := .array .int) (C := "ExecutiveDeskModel") (T := T_Mod) (N := 53) hx hb B.2.2.2.2.1 iw_Mod ty_Mod tyok_Mod nm_Mod B.2.2.2.1 hK hP hD hS 0 rfl rfl 33 (by decide) (B.2.2.2.2.1 _ L_Mod_110) (fun _ h9 => h9) rfl B.2.2.2.2.2.2.2.2.1 rfl (by decide +kernel) rfl rfl (by rw [hn33]; decide) d_Mod_init_270 (fun H locs hP hD hS => ?_)
  obtain ⟨fs34, hf34⟩ : ∃ z : List Value, z = fs33.set 33 (.ref q34) := ⟨_, rfl⟩
  have hn34 : fs34.length = 53 := by rw [hf34, List.length_set]; exact hn33
  have hP : va_P D vwCl ((h0, .inr (8, fs34)) :: tl34) H := by rw [hf34]; exact hP
  have hD : va_D A ((h0, .inr (8, fs34)) :: tl34) := by rw [hf34]; exact hD
  have g3 : fs34[3]? = some (.ref q4) := by rw [hf34, List.getElem?_set_ne (by decide)]; exact g3
  have g31 : fs34[31]? = some (.ref q32) := by rw [hf34, List.getElem?_set_ne (by decide)]; exact g31
  have ef34 : fs34 = [.ref q1, .ref q2, .ref q3, .ref q4, .ref q5, .ref q6, .ref q7, .ref q8, .ref q9, .ref q10, .ref q11, .ref q12, .ref q13, .ref q14, .ref q15, .ref q16, .ref q17, .ref q18, .ref q19, .ref q20, .ref q21, .ref q22, .ref q23, .ref q24, .ref q25, .ref q26, .ref q27, .ref q28, .ref q29, .ref q30, .ref q31, .ref q32, .ref q33, .ref q34, .null, .null, .null, .null, .null, .null, .null, .null, .int 0, .int 0, .int 0, .int 0, .int 0, .int 0, .int 0, .int 0, .int 0, .int 0, .int 0] := by rw [hf34, ef33]; rfl
  refine lv_aload_n hx hb d_Mod_init_273 rfl (lv_at hl 0 rfl) ?_
  refine lv_bipush (v := 8) hx hb d_Mod_init_274 (by decide) ?_
  refine va_newa (atype := .int) (ty := .int) (a0 := (8, .inl (fun _ => 0))) hx hb (B.2.2.2.2.1 _ ed_a0) rfl hK hP hD hS hA (fun _ => rfl) (by decide) (N' := 8) (by decide) (by decide) (Nat.le_of_ble_eq_true rfl) (Nat.le_of_ble_eq_true rfl) d_Mod_init_276 (fun q35 cA H hKn hP hD hS => ?_)
  have hce := ed_caE 0 hKn rfl
  subst hce
  clear hKn
  refine W.widen (k := 35) (n := 596) (by decide) (by decide) ?_
  obtain ⟨tl35, ht35⟩ : ∃ z : va_W, z = tl34 ++ [(q35, .inl (ca 0, 8, .inl (fun _ => 0)))] := ⟨_, rfl⟩
  have hm35 : tl35.length = 35 := by rw [ht35, List.length_append, hm34]; rfl
  have hP : va_P D vwCl ((h0, .inr (8, fs34)) :: tl35) H := by rw [ht35]; exact hP
  have hD : va_D A ((h0, .inr (8, fs34)) :: tl35) := by rw [ht35]; exact hD
  have hr35 : tl35[34]? = some (q35, .inl (ca 0, 8, .inl (fun _ => 0))) := by rw [ht35, List.getElem?_append_right (by rw [hm34]; decide), hm34]; rfl
  have v3 : tl35[3]? = some (q4, .inl (ca 0, 32, .inl (fun _ => 0))) := by rw [ht35, List.getElem?_append_left (by rw [hm34]; decide)]; exact v3
  have v31 : tl35[31]? = some (q32, .inl (ca 0, 8, .inl (fun _ => 0))) := by rw [ht35, List.getElem?_append_left (by rw [hm34]; decide)]; exact v31
  have et35 : tl35 = [(q1, .inl (ca 0, 4, .inl (fun _ => 0))), (q2, .inl (ca 0, 4, .inl (fun _ => 0))), (q3, .inl (ca 0, 4, .inl (fun _ => 0))), (q4, .inl (ca 0, 32, .inl (fun _ => 0))), (q5, .inl (ca 0, 32, .inl (fun _ => 0))), (q6, .inl (ca 0, 8, .inl (fun _ => 0))), (q7, .inl (ca 0, 8, .inl (fun _ => 0))), (q8, .inl (ca 0, 8, .inl (fun _ => 0))), (q9, .inl (ca 0, 8, .inl (fun _ => 0))), (q10, .inl (ca 0, 8, .inl (fun _ => 0))), (q11, .inl (ca 0, 8, .inl (fun _ => 0))), (q12, .inl (ca 0, 8, .inl (fun _ => 0))), (q13, .inl (ca 0, 8, .inl (fun _ => 0))), (q14, .inl (ca 0, 8, .inl (fun _ => 0))), (q15, .inl (ca 0, 8, .inl (fun _ => 0))), (q16, .inl (ca 0, 8, .inl (fun _ => 0))), (q17, .inl (ca 0, 8, .inl (fun _ => 0))), (q18, .inl (ca 0, 24, .inl (fun _ => 0))), (q19, .inl (ca 0, 32, .inl (fun _ => 0))), (q20, .inl (ca 6, 16, .inl (fun _ => 0))), (q21, .inl (ca 6, 16, .inl (fun _ => 0))), (q22, .inl (ca 6, 16, .inl (fun _ => 0))), (q23, .inl (ca 0, 16, .inl (fun _ => 0))), (q24, .inl (ca 0, 16, .inl (fun _ => 0))), (q25, .inl (ca 0, 16, .inl (fun _ => 0))), (q26, .inl (ca 0, 16, .inl (fun _ => 0))), (q27, .inl (ca 0, 16, .inl (fun _ => 0))), (q28, .inl (ca 0, 16, .inl (fun _ => 0))), (q29, .inl (ca 0, 64, .inl (fun _ => 0))), (q30, .inl (ca 0, 64, .inl (fun _ => 0))), (q31, .inl (ca 0, 64, .inl (fun _ => 0))), (q32, .inl (ca 0, 8, .inl (fun _ => 0))), (q33, .inl (ca 0, 8, .inl (fun _ => 0))), (q34, .inl (ca 0, 8, .inl (fun _ => 0))), (q35, .inl (ca 0, 8, .inl (fun _ => 0)))] := by rw [ht35, et34]; rfl
  refine va_putF (D := D) (ci := 8) (v := .ref q35) (ty := .array .int) (C := "ExecutiveDeskModel") (T := T_Mod) (N := 53) hx hb B.2.2.2.2.1 iw_Mod ty_Mod tyok_Mod nm_Mod B.2.2.2.1 hK hP hD hS 0 rfl rfl 34 (by decide) (B.2.2.2.2.1 _ L_Mod_113) (fun _ h9 => h9) rfl B.2.2.2.2.2.2.2.2.1 rfl (by decide +kernel) rfl rfl (by rw [hn34]; decide) d_Mod_init_278 (fun H locs hP hD hS => ?_)
  obtain ⟨fs35, hf35⟩ : ∃ z : List Value, z = fs34.set 34 (.ref q35) := ⟨_, rfl⟩
  have hn35 : fs35.length = 53 := by rw [hf35, List.length_set]; exact hn34
  have hP : va_P D vwCl ((h0, .inr (8, fs35)) :: tl35) H := by rw [hf35]; exact hP
  have hD : va_D A ((h0, .inr (8, fs35)) :: tl35) := by rw [hf35]; exact hD
  have g3 : fs35[3]? = some (.ref q4) := by rw [hf35, List.getElem?_set_ne (by decide)]; exact g3
  have g31 : fs35[31]? = some (.ref q32) := by rw [hf35, List.getElem?_set_ne (by decide)]; exact g31
  have ef35 : fs35 = [.ref q1, .ref q2, .ref q3, .ref q4, .ref q5, .ref q6, .ref q7, .ref q8, .ref q9, .ref q10, .ref q11, .ref q12, .ref q13, .ref q14, .ref q15, .ref q16, .ref q17, .ref q18, .ref q19, .ref q20, .ref q21, .ref q22, .ref q23, .ref q24, .ref q25, .ref q26, .ref q27, .ref q28, .ref q29, .ref q30, .ref q31, .ref q32, .ref q33, .ref q34, .ref q35, .null, .null, .null, .null, .null, .null, .null, .int 0, .int 0, .int 0, .int 0, .int 0, .int 0, .int 0, .int 0, .int 0, .int 0, .int 0] := by rw [hf35, ef34]; rfl
  refine lv_aload_n hx hb d_Mod_init_281 rfl (lv_at hl 0 rfl) ?_
  refine lv_bipush (v := 8) hx hb d_Mod_init_282 (by decide) ?_
  refine va_newa (atype := .int) (ty := .int) (a0 := (8, .inl (fun _ => 0))) hx hb (B.2.2.2.2.1 _ ed_a0) rfl hK hP hD hS hA (fun _ => rfl) (by decide) (N' := 8) (by decide) (by decide) (Nat.le_of_ble_eq_true rfl) (Nat.le_of_ble_eq_true rfl) d_Mod_init_284 (fun q36 cA H hKn hP hD hS => ?_)
  have hce := ed_caE 0 hKn rfl
  subst hce
  clear hKn
  refine W.widen (k := 36) (n := 604) (by decide) (by decide) ?_
  obtain ⟨tl36, ht36⟩ : ∃ z : va_W, z = tl35 ++ [(q36, .inl (ca 0, 8, .inl (fun _ => 0)))] := ⟨_, rfl⟩
  have hm36 : tl36.length = 36 := by rw [ht36, List.length_append, hm35]; rfl
  have hP : va_P D vwCl ((h0, .inr (8, fs35)) :: tl36) H := by rw [ht36]; exact hP
  have hD : va_D A ((h0, .inr (8, fs35)) :: tl36) := by rw [ht36]; exact hD
  have hr36 : tl36[35]? = some (q36, .inl (ca 0, 8, .inl (fun _ => 0))) := by rw [ht36, List.getElem?_append_right (by rw [hm35]; decide), hm35]; rfl
  have v3 : tl36[3]? = some (q4, .inl (ca 0, 32, .inl (fun _ => 0))) := by rw [ht36, List.getElem?_append_left (by rw [hm35]; decide)]; exact v3
  have v31 : tl36[31]? = some (q32, .inl (ca 0, 8, .inl (fun _ => 0))) := by rw [ht36, List.getElem?_append_left (by rw [hm35]; decide)]; exact v31
  have et36 : tl36 = [(q1, .inl (ca 0, 4, .inl (fun _ => 0))), (q2, .inl (ca 0, 4, .inl (fun _ => 0))), (q3, .inl (ca 0, 4, .inl (fun _ => 0))), (q4, .inl (ca 0, 32, .inl (fun _ => 0))), (q5, .inl (ca 0, 32, .inl (fun _ => 0))), (q6, .inl (ca 0, 8, .inl (fun _ => 0))), (q7, .inl (ca 0, 8, .inl (fun _ => 0))), (q8, .inl (ca 0, 8, .inl (fun _ => 0))), (q9, .inl (ca 0, 8, .inl (fun _ => 0))), (q10, .inl (ca 0, 8, .inl (fun _ => 0))), (q11, .inl (ca 0, 8, .inl (fun _ => 0))), (q12, .inl (ca 0, 8, .inl (fun _ => 0))), (q13, .inl (ca 0, 8, .inl (fun _ => 0))), (q14, .inl (ca 0, 8, .inl (fun _ => 0))), (q15, .inl (ca 0, 8, .inl (fun _ => 0))), (q16, .inl (ca 0, 8, .inl (fun _ => 0))), (q17, .inl (ca 0, 8, .inl (fun _ => 0))), (q18, .inl (ca 0, 24, .inl (fun _ => 0))), (q19, .inl (ca 0, 32, .inl (fun _ => 0))), (q20, .inl (ca 6, 16, .inl (fun _ => 0))), (q21, .inl (ca 6, 16, .inl (fun _ => 0))), (q22, .inl (ca 6, 16, .inl (fun _ => 0))), (q23, .inl (ca 0, 16, .inl (fun _ => 0))), (q24, .inl (ca 0, 16, .inl (fun _ => 0))), (q25, .inl (ca 0, 16, .inl (fun _ => 0))), (q26, .inl (ca 0, 16, .inl (fun _ => 0))), (q27, .inl (ca 0, 16, .inl (fun _ => 0))), (q28, .inl (ca 0, 16, .inl (fun _ => 0))), (q29, .inl (ca 0, 64, .inl (fun _ => 0))), (q30, .inl (ca 0, 64, .inl (fun _ => 0))), (q31, .inl (ca 0, 64, .inl (fun _ => 0))), (q32, .inl (ca 0, 8, .inl (fun _ => 0))), (q33, .inl (ca 0, 8, .inl (fun _ => 0))), (q34, .inl (ca 0, 8, .inl (fun _ => 0))), (q35, .inl (ca 0, 8, .inl (fun _ => 0))), (q36, .inl (ca 0, 8, .inl (fun _ => 0)))] := by rw [ht36, et35]; rfl
  refine va_putF (D := D) (ci := 8) (v := .ref q36) (ty := .array .int) (C := "ExecutiveDeskModel") (T := T_Mod) (N := 53) hx hb B.2.2.2.2.1 iw_Mod ty_Mod tyok_Mod nm_Mod B.2.2.2.1 hK hP hD hS 0 rfl rfl 35 (by decide) (B.2.2.2.2.1 _ L_Mod_116) (fun _ h9 => h9) rfl B.2.2.2.2.2.2.2.2.1 rfl (by decide +kernel) rfl rfl (by rw [hn35]; decide) d_Mod_init_286 (fun H locs hP hD hS => ?_)
  obtain ⟨fs36, hf36⟩ : ∃ z : List Value, z = fs35.set 35 (.ref q36) := ⟨_, rfl⟩
  have hn36 : fs36.length = 53 := by rw [hf36, List.length_set]; exact hn35
  have hP : va_P D vwCl ((h0, .inr (8, fs36)) :: tl36) H := by rw [hf36]; exact hP
  have hD : va_D A ((h0, .inr (8, fs36)) :: tl36) := by rw [hf36]; exact hD
  have g3 : fs36[3]? = some (.ref q4) := by rw [hf36, List.getElem?_set_ne (by decide)]; exact g3
  have g31 : fs36[31]? = some (.ref q32) := by rw [hf36, List.getElem?_set_ne (by decide)]; exact g31
  have ef36 : fs36 = [.ref q1, .ref q2, .ref q3, .ref q4, .ref q5, .ref q6, .ref q7, .ref q8, .ref q9, .ref q10, .ref q11, .ref q12, .ref q13, .ref q14, .ref q15, .ref q16, .ref q17, .ref q18, .ref q19, .ref q20, .ref q21, .ref q22, .ref q23, .ref q24, .ref q25, .ref q26, .ref q27, .ref q28, .ref q29, .ref q30, .ref q31, .ref q32, .ref q33, .ref q34, .ref q35, .ref q36, .null, .null, .null, .null, .null, .null, .int 0, .int 0, .int 0, .int 0, .int 0, .int 0, .int 0, .int 0, .int 0, .int 0, .int 0] := by rw [hf36, ef35]; rfl
  refine lv_aload_n hx hb d_Mod_init_289 rfl (lv_at hl 0 rfl) ?_
  refine lv_bipush (v := 8) hx hb d_Mod_init_290 (by decide) ?_
  refine va_newa (atype := .int) (ty := .int) (a0 := (8, .inl (fun _ => 0))) hx hb (B.2.2.2.2.1 _ ed_a0) rfl hK hP hD hS hA (fun _ => rfl) (by decide) (N' := 8) (by decide) (by decide) (Nat.le_of_ble_eq_true rfl) (Nat.le_of_ble_eq_true rfl) d_Mod_init_292 (fun q37 cA H hKn hP hD hS => ?_)
  have hce := ed_caE 0 hKn rfl
  subst hce
  clear hKn
  refine W.widen (k := 37) (n := 612) (by decide) (by decide) ?_
  obtain ⟨tl37, ht37⟩ : ∃ z : va_W, z = tl36 ++ [(q37, .inl (ca 0, 8, .inl (fun _ => 0)))] := ⟨_, rfl⟩
  have hm37 : tl37.length = 37 := by rw [ht37, List.length_append, hm36]; rfl
  have hP : va_P D vwCl ((h0, .inr (8, fs36)) :: tl37) H := by rw [ht37]; exact hP
  have hD : va_D A ((h0, .inr (8, fs36)) :: tl37) := by rw [ht37]; exact hD
  have hr37 : tl37[36]? = some (q37, .inl (ca 0, 8, .inl (fun _ => 0))) := by rw [ht37, List.getElem?_append_right (by rw [hm36]; decide), hm36]; rfl
  have v3 : tl37[3]? = some (q4, .inl (ca 0, 32, .inl (fun _ => 0))) := by rw [ht37, List.getElem?_append_left (by rw [hm36]; decide)]; exact v3
  have v31 : tl37[31]? = some (q32, .inl (ca 0, 8, .inl (fun _ => 0))) := by rw [ht37, List.getElem?_append_left (by rw [hm36]; decide)]; exact v31
  have et37 : tl37 = [(q1, .inl (ca 0, 4, .inl (fun _ => 0))), (q2, .inl (ca 0, 4, .inl (fun _ => 0))), (q3, .inl (ca 0, 4, .inl (fun _ => 0))), (q4, .inl (ca 0, 32, .inl (fun _ => 0))), (q5, .inl (ca 0, 32, .inl (fun _ => 0))), (q6, .inl (ca 0, 8, .inl (fun _ => 0))), (q7, .inl (ca 0, 8, .inl (fun _ => 0))), (q8, .inl (ca 0, 8, .inl (fun _ => 0))), (q9, .inl (ca 0, 8, .inl (fun _ => 0))), (q10, .inl (ca 0, 8, .inl (fun _ => 0))), (q11, .inl (ca 0, 8, .inl (fun _ => 0))), (q12, .inl (ca 0, 8, .inl (fun _ => 0))), (q13, .inl (ca 0, 8, .inl (fun _ => 0))), (q14, .inl (ca 0, 8, .inl (fun _ => 0))), (q15, .inl (ca 0, 8, .inl (fun _ => 0))), (q16, .inl (ca 0, 8, .inl (fun _ => 0))), (q17, .inl (ca 0, 8, .inl (fun _ => 0))), (q18, .inl (ca 0, 24, .inl (fun _ => 0))), (q19, .inl (ca 0, 32, .inl (fun _ => 0))), (q20, .inl (ca 6, 16, .inl (fun _ => 0))), (q21, .inl (ca 6, 16, .inl (fun _ => 0))), (q22, .inl (ca 6, 16, .inl (fun _ => 0))), (q23, .inl (ca 0, 16, .inl (fun _ => 0))), (q24, .inl (ca 0, 16, .inl (fun _ => 0))), (q25, .inl (ca 0, 16, .inl (fun _ => 0))), (q26, .inl (ca 0, 16, .inl (fun _ => 0))), (q27, .inl (ca 0, 16, .inl (fun _ => 0))), (q28, .inl (ca 0, 16, .inl (fun _ => 0))), (q29, .inl (ca 0, 64, .inl (fun _ => 0))), (q30, .inl (ca 0, 64, .inl (fun _ => 0))), (q31, .inl (ca 0, 64, .inl (fun _ => 0))), (q32, .inl (ca 0, 8, .inl (fun _ => 0))), (q33, .inl (ca 0, 8, .inl (fun _ => 0))), (q34, .inl (ca 0, 8, .inl (fun _ => 0))), (q35, .inl (ca 0, 8, .inl (fun _ => 0))), (q36, .inl (ca 0, 8, .inl (fun _ => 0))), (q37, .inl (ca 0, 8, .inl (fun _ => 0)))] := by rw [ht37, et36]; rfl
  refine va_putF (D := D) (ci := 8) (v := .ref q37) (ty := .array .int) (C := "ExecutiveDeskModel") (T := T_Mod) (N := 53) hx hb B.2.2.2.2.1 iw_Mod ty_Mod tyok_Mod nm_Mod B.2.2.2.1 hK hP hD hS 0 rfl rfl 36 (by decide) (B.2.2.2.2.1 _ L_Mod_119) (fun _ h9 => h9) rfl B.2.2.2.2.2.2.2.2.1 rfl (by decide +kernel) rfl rfl (by rw [hn36]; decide) d_Mod_init_294 (fun H locs hP hD hS => ?_)
  obtain ⟨fs37, hf37⟩ : ∃ z : List Value, z = fs36.set 36 (.ref q37) := ⟨_, rfl⟩
  have hn37 : fs37.length = 53 := by rw [hf37, List.length_set]; exact hn36
  have hP : va_P D vwCl ((h0, .inr (8, fs37)) :: tl37) H := by rw [hf37]; exact hP
  have hD : va_D A ((h0, .inr (8, fs37)) :: tl37) := by rw [hf37]; exact hD
  have g3 : fs37[3]? = some (.ref q4) := by rw [hf37, List.getElem?_set_ne (by decide)]; exact g3
  have g31 : fs37[31]? = some (.ref q32) := by rw [hf37, List.getElem?_set_ne (by decide)]; exact g31
  have ef37 : fs37 = [.ref q1, .ref q2, .ref q3, .ref q4, .ref q5, .ref q6, .ref q7, .ref q8, .ref q9, .ref q10, .ref q11, .ref q12, .ref q13, .ref q14, .ref q15, .ref q16, .ref q17, .ref q18, .ref q19, .ref q20, .ref q21, .ref q22, .ref q23, .ref q24, .ref q25, .ref q26, .ref q27, .ref q28, .ref q29, .ref q30, .ref q31, .ref q32, .ref q33, .ref q34, .ref q35, .ref q36, .ref q37, .null, .null, .null, .null, .null, .int 0, .int 0, .int 0, .int 0, .int 0, .int 0, .int 0, .int 0, .int 0, .int 0, .int 0] := by rw [hf37, ef36]; rfl
  refine lv_aload_n hx hb d_Mod_init_297 rfl (lv_at hl 0 rfl) ?_
  refine lv_bipush (v := 8) hx hb d_Mod_init_298 (by decide) ?_
  refine va_newa (atype := .int) (ty := .int) (a0 := (8, .inl (fun _ => 0))) hx hb (B.2.2.2.2.1 _ ed_a0) rfl hK hP hD hS hA (fun _ => rfl) (by decide) (N' := 8) (by decide) (by decide) (Nat.le_of_ble_eq_true rfl) (Nat.le_of_ble_eq_true rfl) d_Mod_init_300 (fun q38 cA H hKn hP hD hS => ?_)
  have hce := ed_caE 0 hKn rfl
  subst hce
  clear hKn
  refine W.widen (k := 38) (n := 620) (by decide) (by decide) ?_
  obtain ⟨tl38, ht38⟩ : ∃ z : va_W, z = tl37 ++ [(q38, .inl (ca 0, 8, .inl (fun _ => 0)))] := ⟨_, rfl⟩
  have hm38 : tl38.length = 38 := by rw [ht38, List.length_append, hm37]; rfl
  have hP : va_P D vwCl ((h0, .inr (8, fs37)) :: tl38) H := by rw [ht38]; exact hP
  have hD : va_D A ((h0, .inr (8, fs37)) :: tl38) := by rw [ht38]; exact hD
  have hr38 : tl38[37]? = some (q38, .inl (ca 0, 8, .inl (fun _ => 0))) := by rw [ht38, List.getElem?_append_right (by rw [hm37]; decide), hm37]; rfl
  have v3 : tl38[3]? = some (q4, .inl (ca 0, 32, .inl (fun _ => 0))) := by rw [ht38, List.getElem?_append_left (by rw [hm37]; decide)]; exact v3
  have v31 : tl38[31]? = some (q32, .inl (ca 0, 8, .inl (fun _ => 0))) := by rw [ht38, List.getElem?_append_left (by rw [hm37]; decide)]; exact v31
  have et38 : tl38 = [(q1, .inl (ca 0, 4, .inl (fun _ => 0))), (q2, .inl (ca 0, 4, .inl (fun _ => 0))), (q3, .inl (ca 0, 4, .inl (fun _ => 0))), (q4, .inl (ca 0, 32, .inl (fun _ => 0))), (q5, .inl (ca 0, 32, .inl (fun _ => 0))), (q6, .inl (ca 0, 8, .inl (fun _ => 0))), (q7, .inl (ca 0, 8, .inl (fun _ => 0))), (q8, .inl (ca 0, 8, .inl (fun _ => 0))), (q9, .inl (ca 0, 8, .inl (fun _ => 0))), (q10, .inl (ca 0, 8, .inl (fun _ => 0))), (q11, .inl (ca 0, 8, .inl (fun _ => 0))), (q12, .inl (ca 0, 8, .inl (fun _ => 0))), (q13, .inl (ca 0, 8, .inl (fun _ => 0))), (q14, .inl (ca 0, 8, .inl (fun _ => 0))), (q15, .inl (ca 0, 8, .inl (fun _ => 0))), (q16, .inl (ca 0, 8, .inl (fun _ => 0))), (q17, .inl (ca 0, 8, .inl (fun _ => 0))), (q18, .inl (ca 0, 24, .inl (fun _ => 0))), (q19, .inl (ca 0, 32, .inl (fun _ => 0))), (q20, .inl (ca 6, 16, .inl (fun _ => 0))), (q21, .inl (ca 6, 16, .inl (fun _ => 0))), (q22, .inl (ca 6, 16, .inl (fun _ => 0))), (q23, .inl (ca 0, 16, .inl (fun _ => 0))), (q24, .inl (ca 0, 16, .inl (fun _ => 0))), (q25, .inl (ca 0, 16, .inl (fun _ => 0))), (q26, .inl (ca 0, 16, .inl (fun _ => 0))), (q27, .inl (ca 0, 16, .inl (fun _ => 0))), (q28, .inl (ca 0, 16, .inl (fun _ => 0))), (q29, .inl (ca 0, 64, .inl (fun _ => 0))), (q30, .inl (ca 0, 64, .inl (fun _ => 0))), (q31, .inl (ca 0, 64, .inl (fun _ => 0))), (q32, .inl (ca 0, 8, .inl (fun _ => 0))), (q33, .inl (ca 0, 8, .inl (fun _ => 0))), (q34, .inl (ca 0, 8, .inl (fun _ => 0))), (q35, .inl (ca 0, 8, .inl (fun _ => 0))), (q36, .inl (ca 0, 8, .inl (fun _ => 0))), (q37, .inl (ca 0, 8, .inl (fun _ => 0))), (q38, .inl (ca 0, 8, .inl (fun _ => 0)))] := by rw [ht38, et37]; rfl
  refine va_putF (D := D) (ci := 8) (v := .ref q38) (ty := .array .int) (C := "ExecutiveDeskModel") (T := T_Mod) (N := 53) hx hb B.2.2.2.2.1 iw_Mod ty_Mod tyok_Mod nm_Mod B.2.2.2.1 hK hP hD hS 0 rfl rfl 37 (by decide) (B.2.2.2.2.1 _ L_Mod_122) (fun _ h9 => h9) rfl B.2.2.2.2.2.2.2.2.1 rfl (by decide +kernel) rfl rfl (by rw [hn37]; decide) d_Mod_init_302 (fun H locs hP hD hS => ?_)
  obtain ⟨fs38, hf38⟩ : ∃ z : List Value, z = fs37.set 37 (.ref q38) := ⟨_, rfl⟩
  have hn38 : fs38.length = 53 := by rw [hf38, List.length_set]; exact hn37
  have hP : va_P D vwCl ((h0, .inr (8, fs38)) :: tl38) H := by rw [hf38]; exact hP
  have hD : va_D A ((h0, .inr (8, fs38)) :: tl38) := by rw [hf38]; exact hD
  have g3 : fs38[3]? = some (.ref q4) := by rw [hf38, List.getElem?_set_ne (by decide)]; exact g3
  have g31 : fs38[31]? = some (.ref q32) := by rw [hf38, List.getElem?_set_ne (by decide)]; exact g31
  have ef38 : fs38 = [.ref q1, .ref q2, .ref q3, .ref q4, .ref q5, .ref q6, .ref q7, .ref q8, .ref q9, .ref q10, .ref q11, .ref q12, .ref q13, .ref q14, .ref q15, .ref q16, .ref q17, .ref q18, .ref q19, .ref q20, .ref q21, .ref q22, .ref q23, .ref q24, .ref q25, .ref q26, .ref q27, .ref q28, .ref q29, .ref q30, .ref q31, .ref q32, .ref q33, .ref q34, .ref q35, .ref q36, .ref q37, .ref q38, .null, .null, .null, .null, .int 0, .int 0, .int 0, .int 0, .int 0, .int 0, .int 0, .int 0, .int 0, .int 0, .int 0] := by rw [hf38, ef37]; rfl
  refine lv_aload_n hx hb d_Mod_init_305 rfl (lv_at hl 0 rfl) ?_
  refine lv_bipush (v := 8) hx hb d_Mod_init_306 (by decide) ?_
  refine va_newa (atype := .boolean) (ty := .boolean) (a0 := (8, .inl (fun _ => 0))) hx hb (B.2.2.2.2.1 _ ed_a6) rfl hK hP hD hS hA (fun _ => rfl) (by decide) (N' := 8) (by decide) (by decide) (Nat.le_of_ble_eq_true rfl) (Nat.le_of_ble_eq_true rfl) d_Mod_init_308 (fun q39 cA H hKn hP hD hS => ?_)
  have hce := ed_caE 6 hKn rfl
  subst hce
  clear hKn
  refine W.widen (k := 39) (n := 628) (by decide) (by decide) ?_
  obtain ⟨tl39, ht39⟩ : ∃ z : va_W, z = tl38 ++ [(q39, .inl (ca 6, 8, .inl (fun _ => 0)))] := ⟨_, rfl⟩
  have hm39 : tl39.length = 39 := by rw [ht39, List.length_append, hm38]; rfl
  have hP : va_P D vwCl ((h0, .inr (8, fs38)) :: tl39) H := by rw [ht39]; exact hP
  have hD : va_D A ((h0, .inr (8, fs38)) :: tl39) := by rw [ht39]; exact hD
  have hr39 : tl39[38]? = some (q39, .inl (ca 6, 8, .inl (fun _ => 0))) := by rw [ht39, List.getElem?_append_right (by rw [hm38]; decide), hm38]; rfl
  have v3 : tl39[3]? = some (q4, .inl (ca 0, 32, .inl (fun _ => 0))) := by rw [ht39, List.getElem?_append_left (by rw [hm38]; decide)]; exact v3
  have v31 : tl39[31]? = some (q32, .inl (ca 0, 8, .inl (fun _ => 0))) := by rw [ht39, List.getElem?_append_left (by rw [hm38]; decide)]; exact v31
  have et39 : tl39 = [(q1, .inl (ca 0, 4, .inl (fun _ => 0))), (q2, .inl (ca 0, 4, .inl (fun _ => 0))), (q3, .inl (ca 0, 4, .inl (fun _ => 0))), (q4, .inl (ca 0, 32, .inl (fun _ => 0))), (q5, .inl (ca 0, 32, .inl (fun _ => 0))), (q6, .inl (ca 0, 8, .inl (fun _ => 0))), (q7, .inl (ca 0, 8, .inl (fun _ => 0))), (q8, .inl (ca 0, 8, .inl (fun _ => 0))), (q9, .inl (ca 0, 8, .inl (fun _ => 0))), (q10, .inl (ca 0, 8, .inl (fun _ => 0))), (q11, .inl (ca 0, 8, .inl (fun _ => 0))), (q12, .inl (ca 0, 8, .inl (fun _ => 0))), (q13, .inl (ca 0, 8, .inl (fun _ => 0))), (q14, .inl (ca 0, 8, .inl (fun _ => 0))), (q15, .inl (ca 0, 8, .inl (fun _ => 0))), (q16, .inl (ca 0, 8, .inl (fun _ => 0))), (q17, .inl (ca 0, 8, .inl (fun _ => 0))), (q18, .inl (ca 0, 24, .inl (fun _ => 0))), (q19, .inl (ca 0, 32, .inl (fun _ => 0))), (q20, .inl (ca 6, 16, .inl (fun _ => 0))), (q21, .inl (ca 6, 16, .inl (fun _ => 0))), (q22, .inl (ca 6, 16, .inl (fun _ => 0))), (q23, .inl (ca 0, 16, .inl (fun _ => 0))), (q24, .inl (ca 0, 16, .inl (fun _ => 0))), (q25, .inl (ca 0, 16, .inl (fun _ => 0))), (q26, .inl (ca 0, 16, .inl (fun _ => 0))), (q27, .inl (ca 0, 16, .inl (fun _ => 0))), (q28, .inl (ca 0, 16, .inl (fun _ => 0))), (q29, .inl (ca 0, 64, .inl (fun _ => 0))), (q30, .inl (ca 0, 64, .inl (fun _ => 0))), (q31, .inl (ca 0, 64, .inl (fun _ => 0))), (q32, .inl (ca 0, 8, .inl (fun _ => 0))), (q33, .inl (ca 0, 8, .inl (fun _ => 0))), (q34, .inl (ca 0, 8, .inl (fun _ => 0))), (q35, .inl (ca 0, 8, .inl (fun _ => 0))), (q36, .inl (ca 0, 8, .inl (fun _ => 0))), (q37, .inl (ca 0, 8, .inl (fun _ => 0))), (q38, .inl (ca 0, 8, .inl (fun _ => 0))), (q39, .inl (ca 6, 8, .inl (fun _ => 0)))] := by rw [ht39, et38]; rfl
  refine va_putF (D := D) (ci := 8) (v := .ref q39) (ty := .array .boolean) (C := "ExecutiveDeskModel") (T := T_Mod) (N := 53) hx hb B.2.2.2.2.1 iw_Mod ty_Mod tyok_Mod nm_Mod B.2.2.2.1 hK hP hD hS 0 rfl rfl 38 (by decide) (B.2.2.2.2.1 _ L_Mod_125) (fun _ h9 => h9) rfl B.2.2.2.2.2.2.2.2.1 rfl (by decide +kernel) rfl rfl (by rw [hn38]; decide) d_Mod_init_310 (fun H locs hP hD hS => ?_)
  obtain ⟨fs39, hf39⟩ : ∃ z : List Value, z = fs38.set 38 (.ref q39) := ⟨_, rfl⟩
  have hn39 : fs39.length = 53 := by rw [hf39, List.length_set]; exact hn38
  have hP : va_P D vwCl ((h0, .inr (8, fs39)) :: tl39) H := by rw [hf39]; exact hP
  have hD : va_D A ((h0, .inr (8, fs39)) :: tl39) := by rw [hf39]; exact hD
  have g3 : fs39[3]? = some (.ref q4) := by rw [hf39, List.getElem?_set_ne (by decide)]; exact g3
  have g31 : fs39[31]? = some (.ref q32) := by rw [hf39, List.getElem?_set_ne (by decide)]; exact g31
  have ef39 : fs39 = [.ref q1, .ref q2, .ref q3, .ref q4, .ref q5, .ref q6, .ref q7, .ref q8, .ref q9, .ref q10, .ref q11, .ref q12, .ref q13, .ref q14, .ref q15, .ref q16, .ref q17, .ref q18, .ref q19, .ref q20, .ref q21, .ref q22, .ref q23, .ref q24, .ref q25, .ref q26, .ref q27, .ref q28, .ref q29, .ref q30, .ref q31, .ref q32, .ref q33, .ref q34, .ref q35, .ref q36, .ref q37, .ref q38, .ref q39, .null, .null, .null, .int 0, .int 0, .int 0, .int 0, .int 0, .int 0, .int 0, .int 0, .int 0, .int 0, .int 0] := by rw [hf39, ef38]; rfl
  refine lv_aload_n hx hb d_Mod_init_313 rfl (lv_at hl 0 rfl) ?_
  refine lv_bipush (v := 8) hx hb d_Mod_init_314 (by decide) ?_
  refine va_newa (atype := .boolean) (ty := .boolean) (a0 := (8, .inl (fun _ => 0))) hx hb (B.2.2.2.2.1 _ ed_a6) rfl hK hP hD hS hA (fun _ => rfl) (by decide) (N' := 8) (by decide) (by decide) (Nat.le_of_ble_eq_true rfl) (Nat.le_of_ble_eq_true rfl) d_Mod_init_316 (fun q40 cA H hKn hP hD hS => ?_)
  have hce := ed_caE 6 hKn rfl
  subst hce
  clear hKn
  refine W.widen (k := 40) (n := 636) (by decide) (by decide) ?_
  obtain ⟨tl40, ht40⟩ : ∃ z : va_W, z = tl39 ++ [(q40, .inl (ca 6, 8, .inl (fun _ => 0)))] := ⟨_, rfl⟩
  have hm40 : tl40.length = 40 := by rw [ht40, List.length_append, hm39]; rfl
  have hP : va_P D vwCl ((h0, .inr (8, fs39)) :: tl40) H := by rw [ht40]; exact hP
  have hD : va_D A ((h0, .inr (8, fs39)) :: tl40) := by rw [ht40]; exact hD
  have hr40 : tl40[39]? = some (q40, .inl (ca 6, 8, .inl (fun _ => 0))) := by rw [ht40, List.getElem?_append_right (by rw [hm39]; decide), hm39]; rfl
  have v3 : tl40[3]? = some (q4, .inl (ca 0, 32, .inl (fun _ => 0))) := by rw [ht40, List.getElem?_append_left (by rw [hm39]; decide)]; exact v3
  have v31 : tl40[31]? = some (q32, .inl (ca 0, 8, .inl (fun _ => 0))) := by rw [ht40, List.getElem?_append_left (by rw [hm39]; decide)]; exact v31
  have et40 : tl40 = [(q1, .inl (ca 0, 4, .inl (fun _ => 0))), (q2, .inl (ca 0, 4, .inl (fun _ => 0))), (q3, .inl (ca 0, 4, .inl (fun _ => 0))), (q4, .inl (ca 0, 32, .inl (fun _ => 0))), (q5, .inl (ca 0, 32, .inl (fun _ => 0))), (q6, .inl (ca 0, 8, .inl (fun _ => 0))), (q7, .inl (ca 0, 8, .inl (fun _ => 0))), (q8, .inl (ca 0, 8, .inl (fun _ => 0))), (q9, .inl (ca 0, 8, .inl (fun _ => 0))), (q10, .inl (ca 0, 8, .inl (fun _ => 0))), (q11, .inl (ca 0, 8, .inl (fun _ => 0))), (q12, .inl (ca 0, 8, .inl (fun _ => 0))), (q13, .inl (ca 0, 8, .inl (fun _ => 0))), (q14, .inl (ca 0, 8, .inl (fun _ => 0))), (q15, .inl (ca 0, 8, .inl (fun _ => 0))), (q16, .inl (ca 0, 8, .inl (fun _ => 0))), (q17, .inl (ca 0, 8, .inl (fun _ => 0))), (q18, .inl (ca 0, 24, .inl (fun _ => 0))), (q19, .inl (ca 0, 32, .inl (fun _ => 0))), (q20, .inl (ca 6, 16, .inl (fun _ => 0))), (q21, .inl (ca 6, 16, .inl (fun _ => 0))), (q22, .inl (ca 6, 16, .inl (fun _ => 0))), (q23, .inl (ca 0, 16, .inl (fun _ => 0))), (q24, .inl (ca 0, 16, .inl (fun _ => 0))), (q25, .inl (ca 0, 16, .inl (fun _ => 0))), (q26, .inl (ca 0, 16, .inl (fun _ => 0))), (q27, .inl (ca 0, 16, .inl (fun _ => 0))), (q28, .inl (ca 0, 16, .inl (fun _ => 0))), (q29, .inl (ca 0, 64, .inl (fun _ => 0))), (q30, .inl (ca 0, 64, .inl (fun _ => 0))), (q31, .inl (ca 0, 64, .inl (fun _ => 0))), (q32, .inl (ca 0, 8, .inl (fun _ => 0))), (q33, .inl (ca 0, 8, .inl (fun _ => 0))), (q34, .inl (ca 0, 8, .inl (fun _ => 0))), (q35, .inl (ca 0, 8, .inl (fun _ => 0))), (q36, .inl (ca 0, 8, .inl (fun _ => 0))), (q37, .inl (ca 0, 8, .inl (fun _ => 0))), (q38, .inl (ca 0, 8, .inl (fun _ => 0))), (q39, .inl (ca 6, 8, .inl (fun _ => 0))), (q40, .inl (ca 6, 8, .inl (fun _ => 0)))] := by rw [ht40, et39]; rfl
  refine va_putF (D := D) (ci := 8) (v := .ref q40) (ty := .array .boolean) (C := "ExecutiveDeskModel") (T := T_Mod) (N := 53) hx hb B.2.2.2.2.1 iw_Mod ty_Mod tyok_Mod nm_Mod B.2.2.2.1 hK hP hD hS 0 rfl rfl 39 (by decide) (B.2.2.2.2.1 _ L_Mod_128) (fun _ h9 => h9) rfl B.2.2.2.2.2.2.2.2.1 rfl (by decide +kernel) rfl rfl (by rw [hn39]; decide) d_Mod_init_318 (fun H locs hP hD hS => ?_)
  obtain ⟨fs40, hf40⟩ : ∃ z : List Value, z = fs39.set 39 (.ref q40) := ⟨_, rfl⟩
  have hn40 : fs40.length = 53 := by rw [hf40, List.length_set]; exact hn39
  have hP : va_P D vwCl ((h0, .inr (8, fs40)) :: tl40) H := by rw [hf40]; exact hP
  have hD : va_D A ((h0, .inr (8, fs40)) :: tl40) := by rw [hf40]; exact hD
  have g3 : fs40[3]? = some (.ref q4) := by rw [hf40, List.getElem?_set_ne (by decide)]; exact g3
  have g31 : fs40[31]? = some (.ref q32) := by rw [hf40, List.getElem?_set_ne (by decide)]; exact g31
  have ef40 : fs40 = [.ref q1, .ref q2, .ref q3, .ref q4, .ref q5, .ref q6, .ref q7, .ref q8, .ref q9, .ref q10, .ref q11, .ref q12, .ref q13, .ref q14, .ref q15, .ref q16, .ref q17, .ref q18, .ref q19, .ref q20, .ref q21, .ref q22, .ref q23, .ref q24, .ref q25, .ref q26, .ref q27, .ref q28, .ref q29, .ref q30, .ref q31, .ref q32, .ref q33, .ref q34, .ref q35, .ref q36, .ref q37, .ref q38, .ref q39, .ref q40, .null, .null, .int 0, .int 0, .int 0, .int 0, .int 0, .int 0, .int 0, .int 0, .int 0, .int 0, .int 0] := by rw [hf40, ef39]; rfl
  refine lv_aload_n hx hb d_Mod_init_321 rfl (lv_at hl 0 rfl) ?_
  refine lv_bipush (v := 8) hx hb d_Mod_init_322 (by decide) ?_
  refine va_newa (atype := .int) (ty := .int) (a0 := (8, .inl (fun _ => 0))) hx hb (B.2.2.2.2.1 _ ed_a0) rfl hK hP hD hS hA (fun _ => rfl) (by decide) (N' := 8) (by decide) (by decide) (Nat.le_of_ble_eq_true rfl) (Nat.le_of_ble_eq_true rfl) d_Mod_init_324 (fun q41 cA H hKn hP hD hS => ?_)
  have hce := ed_caE 0 hKn rfl
  subst hce
  clear hKn
  refine W.widen (k := 41) (n := 644) (by decide) (by decide) ?_
  obtain ⟨tl41, ht41⟩ : ∃ z : va_W, z = tl40 ++ [(q41, .inl (ca 0, 8, .inl (fun _ => 0)))] := ⟨_, rfl⟩
  have hm41 : tl41.length = 41 := by rw [ht41, List.length_append, hm40]; rfl
  have hP : va_P D vwCl ((h0, .inr (8, fs40)) :: tl41) H := by rw [ht41]; exact hP
  have hD : va_D A ((h0, .inr (8, fs40)) :: tl41) := by rw [ht41]; exact hD
  have hr41 : tl41[40]? = some (q41, .inl (ca 0, 8, .inl (fun _ => 0))) := by rw [ht41, List.getElem?_append_right (by rw [hm40]; decide), hm40]; rfl
  have v3 : tl41[3]? = some (q4, .inl (ca 0, 32, .inl (fun _ => 0))) := by rw [ht41, List.getElem?_append_left (by rw [hm40]; decide)]; exact v3
  have v31 : tl41[31]? = some (q32, .inl (ca 0, 8, .inl (fun _ => 0))) := by rw [ht41, List.getElem?_append_left (by rw [hm40]; decide)]; exact v31
  have et41 : tl41 = [(q1, .inl (ca 0, 4, .inl (fun _ => 0))), (q2, .inl (ca 0, 4, .inl (fun _ => 0))), (q3, .inl (ca 0, 4, .inl (fun _ => 0))), (q4, .inl (ca 0, 32, .inl (fun _ => 0))), (q5, .inl (ca 0, 32, .inl (fun _ => 0))), (q6, .inl (ca 0, 8, .inl (fun _ => 0))), (q7, .inl (ca 0, 8, .inl (fun _ => 0))), (q8, .inl (ca 0, 8, .inl (fun _ => 0))), (q9, .inl (ca 0, 8, .inl (fun _ => 0))), (q10, .inl (ca 0, 8, .inl (fun _ => 0))), (q11, .inl (ca 0, 8, .inl (fun _ => 0))), (q12, .inl (ca 0, 8, .inl (fun _ => 0))), (q13, .inl (ca 0, 8, .inl (fun _ => 0))), (q14, .inl (ca 0, 8, .inl (fun _ => 0))), (q15, .inl (ca 0, 8, .inl (fun _ => 0))), (q16, .inl (ca 0, 8, .inl (fun _ => 0))), (q17, .inl (ca 0, 8, .inl (fun _ => 0))), (q18, .inl (ca 0, 24, .inl (fun _ => 0))), (q19, .inl (ca 0, 32, .inl (fun _ => 0))), (q20, .inl (ca 6, 16, .inl (fun _ => 0))), (q21, .inl (ca 6, 16, .inl (fun _ => 0))), (q22, .inl (ca 6, 16, .inl (fun _ => 0))), (q23, .inl (ca 0, 16, .inl (fun _ => 0))), (q24, .inl (ca 0, 16, .inl (fun _ => 0))), (q25, .inl (ca 0, 16, .inl (fun _ => 0))), (q26, .inl (ca 0, 16, .inl (fun _ => 0))), (q27, .inl (ca 0, 16, .inl (fun _ => 0))), (q28, .inl (ca 0, 16, .inl (fun _ => 0))), (q29, .inl (ca 0, 64, .inl (fun _ => 0))), (q30, .inl (ca 0, 64, .inl (fun _ => 0))), (q31, .inl (ca 0, 64, .inl (fun _ => 0))), (q32, .inl (ca 0, 8, .inl (fun _ => 0))), (q33, .inl (ca 0, 8, .inl (fun _ => 0))), (q34, .inl (ca 0, 8, .inl (fun _ => 0))), (q35, .inl (ca 0, 8, .inl (fun _ => 0))), (q36, .inl (ca 0, 8, .inl (fun _ => 0))), (q37, .inl (ca 0, 8, .inl (fun _ => 0))), (q38, .inl (ca 0, 8, .inl (fun _ => 0))), (q39, .inl (ca 6, 8, .inl (fun _ => 0))), (q40, .inl (ca 6, 8, .inl (fun _ => 0))), (q41, .inl (ca 0, 8, .inl (fun _ => 0)))] := by rw [ht41, et40]; rfl
  refine va_putF (D := D) (ci := 8) (v := .ref q41) (ty := .array .int) (C := "ExecutiveDeskModel") (T := T_Mod) (N := 53) hx hb B.2.2.2.2.1 iw_Mod ty_Mod tyok_Mod nm_Mod B.2.2.2.1 hK hP hD hS 0 rfl rfl 40 (by decide) (B.2.2.2.2.1 _ L_Mod_131) (fun _ h9 => h9) rfl B.2.2.2.2.2.2.2.2.1 rfl (by decide +kernel) rfl rfl (by rw [hn40]; decide) d_Mod_init_326 (fun H locs hP hD hS => ?_)
  obtain ⟨fs41, hf41⟩ : ∃ z : List Value, z = fs40.set 40 (.ref q41) := ⟨_, rfl⟩
  have hn41 : fs41.length = 53 := by rw [hf41, List.length_set]; exact hn40
  have hP : va_P D vwCl ((h0, .inr (8, fs41)) :: tl41) H := by rw [hf41]; exact hP
  have hD : va_D A ((h0, .inr (8, fs41)) :: tl41) := by rw [hf41]; exact hD
  have g3 : fs41[3]? = some (.ref q4) := by rw [hf41, List.getElem?_set_ne (by decide)]; exact g3
  have g31 : fs41[31]? = some (.ref q32) := by rw [hf41, List.getElem?_set_ne (by decide)]; exact g31
  have ef41 : fs41 = [.ref q1, .ref q2, .ref q3, .ref q4, .ref q5, .ref q6, .ref q7, .ref q8, .ref q9, .ref q10, .ref q11, .ref q12, .ref q13, .ref q14, .ref q15, .ref q16, .ref q17, .ref q18, .ref q19, .ref q20, .ref q21, .ref q22, .ref q23, .ref q24, .ref q25, .ref q26, .ref q27, .ref q28, .ref q29, .ref q30, .ref q31, .ref q32, .ref q33, .ref q34, .ref q35, .ref q36, .ref q37, .ref q38, .ref q39, .ref q40, .ref q41, .null, .int 0, .int 0, .int 0, .int 0, .int 0, .int 0, .int 0, .int 0, .int 0, .int 0, .int 0] := by rw [hf41, ef40]; rfl
  refine lv_aload_n hx hb d_Mod_init_329 rfl (lv_at hl 0 rfl) ?_
  refine lv_bipush (v := 8) hx hb d_Mod_init_330 (by decide) ?_
  refine va_newa (atype := .boolean) (ty := .boolean) (a0 := (8, .inl (fun _ => 0))) hx hb (B.2.2.2.2.1 _ ed_a6) rfl hK hP hD hS hA (fun _ => rfl) (by decide) (N' := 8) (by decide) (by decide) (Nat.le_of_ble_eq_true rfl) (Nat.le_of_ble_eq_true rfl) d_Mod_init_332 (fun q42 cA H hKn hP hD hS => ?_)
  have hce := ed_caE 6 hKn rfl
  subst hce
  clear hKn
  refine W.widen (k := 42) (n := 652) (by decide) (by decide) ?_
  obtain ⟨tl42, ht42⟩ : ∃ z : va_W, z = tl41 ++ [(q42, .inl (ca 6, 8, .inl (fun _ => 0)))] := ⟨_, rfl⟩
  have hm42 : tl42.length = 42 := by rw [ht42, List.length_append, hm41]; rfl
  have hP : va_P D vwCl ((h0, .inr (8, fs41)) :: tl42) H := by rw [ht42]; exact hP
  have hD : va_D A ((h0, .inr (8, fs41)) :: tl42) := by rw [ht42]; exact hD
  have hr42 : tl42[41]? = some (q42, .inl (ca 6, 8, .inl (fun _ => 0))) := by rw [ht42, List.getElem?_append_right (by rw [hm41]; decide), hm41]; rfl
  have v3 : tl42[3]? = some (q4, .inl (ca 0, 32, .inl (fun _ => 0))) := by rw [ht42, List.getElem?_append_left (by rw [hm41]; decide)]; exact v3
  have v31 : tl42[31]? = some (q32, .inl (ca 0, 8, .inl (fun _ => 0))) := by rw [ht42, List.getElem?_append_left (by rw [hm41]; decide)]; exact v31
  have et42 : tl42 = [(q1, .inl (ca 0, 4, .inl (fun _ => 0))), (q2, .inl (ca 0, 4, .inl (fun _ => 0))), (q3, .inl (ca 0, 4, .inl (fun _ => 0))), (q4, .inl (ca 0, 32, .inl (fun _ => 0))), (q5, .inl (ca 0, 32, .inl (fun _ => 0))), (q6, .inl (ca 0, 8, .inl (fun _ => 0))), (q7, .inl (ca 0, 8, .inl (fun _ => 0))), (q8, .inl (ca 0, 8, .inl (fun _ => 0))), (q9, .inl (ca 0, 8, .inl (fun _ => 0))), (q10, .inl (ca 0, 8, .inl (fun _ => 0))), (q11, .inl (ca 0, 8, .inl (fun _ => 0))), (q12, .inl (ca 0, 8, .inl (fun _ => 0))), (q13, .inl (ca 0, 8, .inl (fun _ => 0))), (q14, .inl (ca 0, 8, .inl (fun _ => 0))), (q15, .inl (ca 0, 8, .inl (fun _ => 0))), (q16, .inl (ca 0, 8, .inl (fun _ => 0))), (q17, .inl (ca 0, 8, .inl (fun _ => 0))), (q18, .inl (ca 0, 24, .inl (fun _ => 0))), (q19, .inl (ca 0, 32, .inl (fun _ => 0))), (q20, .inl (ca 6, 16, .inl (fun _ => 0))), (q21, .inl (ca 6, 16, .inl (fun _ => 0))), (q22, .inl (ca 6, 16, .inl (fun _ => 0))), (q23, .inl (ca 0, 16, .inl (fun _ => 0))), (q24, .inl (ca 0, 16, .inl (fun _ => 0))), (q25, .inl (ca 0, 16, .inl (fun _ => 0))), (q26, .inl (ca 0, 16, .inl (fun _ => 0))), (q27, .inl (ca 0, 16, .inl (fun _ => 0))), (q28, .inl (ca 0, 16, .inl (fun _ => 0))), (q29, .inl (ca 0, 64, .inl (fun _ => 0))), (q30, .inl (ca 0, 64, .inl (fun _ => 0))), (q31, .inl (ca 0, 64, .inl (fun _ => 0))), (q32, .inl (ca 0, 8, .inl (fun _ => 0))), (q33, .inl (ca 0, 8, .inl (fun _ => 0))), (q34, .inl (ca 0, 8, .inl (fun _ => 0))), (q35, .inl (ca 0, 8, .inl (fun _ => 0))), (q36, .inl (ca 0, 8, .inl (fun _ => 0))), (q37, .inl (ca 0, 8, .inl (fun _ => 0))), (q38, .inl (ca 0, 8, .inl (fun _ => 0))), (q39, .inl (ca 6, 8, .inl (fun _ => 0))), (q40, .inl (ca 6, 8, .inl (fun _ => 0))), (q41, .inl (ca 0, 8, .inl (fun _ => 0))), (q42, .inl (ca 6, 8, .inl (fun _ => 0)))] := by rw [ht42, et41]; rfl
  refine va_putF (D := D) (ci := 8) (v := .ref q42) (ty := .array .boolean) (C := "ExecutiveDeskModel") (T := T_Mod) (N := 53) hx hb B.2.2.2.2.1 iw_Mod ty_Mod tyok_Mod nm_Mod B.2.2.2.1 hK hP hD hS 0 rfl rfl 41 (by decide) (B.2.2.2.2.1 _ L_Mod_134) (fun _ h9 => h9) rfl B.2.2.2.2.2.2.2.2.1 rfl (by decide +kernel) rfl rfl (by rw [hn41]; decide) d_Mod_init_334 (fun H locs hP hD hS => ?_)
  obtain ⟨fs42, hf42⟩ : ∃ z : List Value, z = fs41.set 41 (.ref q42) := ⟨_, rfl⟩
  have hn42 : fs42.length = 53 := by rw [hf42, List.length_set]; exact hn41
  have hP : va_P D vwCl ((h0, .inr (8, fs42)) :: tl42) H := by rw [hf42]; exact hP
  have hD : va_D A ((h0, .inr (8, fs42)) :: tl42) := by rw [hf42]; exact hD
  have g3 : fs42[3]? = some (.ref q4) := by rw [hf42, List.getElem?_set_ne (by decide)]; exact g3
  have g31 : fs42[31]? = some (.ref q32) := by rw [hf42, List.getElem?_set_ne (by decide)]; exact g31
  have ef42 : fs42 = [.ref q1, .ref q2, .ref q3, .ref q4, .ref q5, .ref q6, .ref q7, .ref q8, .ref q9, .ref q10, .ref q11, .ref q12, .ref q13, .ref q14, .ref q15, .ref q16, .ref q17, .ref q18, .ref q19, .ref q20, .ref q21, .ref q22, .ref q23, .ref q24, .ref q25, .ref q26, .ref q27, .ref q28, .ref q29, .ref q30, .ref q31, .ref q32, .ref q33, .ref q34, .ref q35, .ref q36, .ref q37, .ref q38, .ref q39, .ref q40, .ref q41, .ref q42, .int 0, .int 0, .int 0, .int 0, .int 0, .int 0, .int 0, .int 0, .int 0, .int 0, .int 0] := by rw [hf42, ef41]; rfl
  refine lv_aload_n hx hb d_Mod_init_337 rfl (lv_at hl 0 rfl) ?_
  refine lv_iconst (v := (-1)) hx hb d_Mod_init_338 (by decide) ?_
  refine va_put (D := D) (ci := 8) (v := .int (-1)) (ty := .int) (C := "ExecutiveDeskModel") (T := T_Mod) (N := 53) hx hb B.2.2.2.2.1 iw_Mod ty_Mod tyok_Mod nm_Mod B.2.2.2.1 hK hP hD hS 0 rfl rfl 44 (by decide) (B.2.2.2.2.1 _ L_Mod_137) (fun _ h9 => h9) rfl (by decide +kernel) rfl rfl (by rw [hn42]; decide) d_Mod_init_339 (fun H locs hP hD hS => ?_)
  obtain ⟨fs43, hf43⟩ : ∃ z : List Value, z = fs42.set 44 (.int (-1)) := ⟨_, rfl⟩
  have hn43 : fs43.length = 53 := by rw [hf43, List.length_set]; exact hn42
  have hP : va_P D vwCl ((h0, .inr (8, fs43)) :: tl42) H := by rw [hf43]; exact hP
  have hD : va_D A ((h0, .inr (8, fs43)) :: tl42) := by rw [hf43]; exact hD
  have g3 : fs43[3]? = some (.ref q4) := by rw [hf43, List.getElem?_set_ne (by decide)]; exact g3
  have g31 : fs43[31]? = some (.ref q32) := by rw [hf43, List.getElem?_set_ne (by decide)]; exact g31
  have ef43 : fs43 = [.ref q1, .ref q2, .ref q3, .ref q4, .ref q5, .ref q6, .ref q7, .ref q8, .ref q9, .ref q10, .ref q11, .ref q12, .ref q13, .ref q14, .ref q15, .ref q16, .ref q17, .ref q18, .ref q19, .ref q20, .ref q21, .ref q22, .ref q23, .ref q24, .ref q25, .ref q26, .ref q27, .ref q28, .ref q29, .ref q30, .ref q31, .ref q32, .ref q33, .ref q34, .ref q35, .ref q36, .ref q37, .ref q38, .ref q39, .ref q40, .ref q41, .ref q42, .int 0, .int 0, .int (-1), .int 0, .int 0, .int 0, .int 0, .int 0, .int 0, .int 0, .int 0] := by rw [hf43, ef42]; rfl
  refine lv_aload_n hx hb d_Mod_init_342 rfl (lv_at hl 0 rfl) ?_
  refine lv_iconst (v := (-1)) hx hb d_Mod_init_343 (by decide) ?_
  refine va_put (D := D) (ci := 8) (v := .int (-1)) (ty := .int) (C := "ExecutiveDeskModel") (T := T_Mod) (N := 53) hx hb B.2.2.2.2.1 iw_Mod ty_Mod tyok_Mod nm_Mod B.2.2.2.1 hK hP hD hS 0 rfl rfl 45 (by decide) (B.2.2.2.2.1 _ L_Mod_141) (fun _ h9 => h9) rfl (by decide +kernel) rfl rfl (by rw [hn43]; decide) d_Mod_init_344 (fun H locs hP hD hS => ?_)
  obtain ⟨fs44, hf44⟩ : ∃ z : List Value, z = fs43.set 45 (.int (-1)) := ⟨_, rfl⟩
  have hn44 : fs44.length = 53 := by rw [hf44, List.length_set]; exact hn43
  have hP : va_P D vwCl ((h0, .inr (8, fs44)) :: tl42) H := by rw [hf44]; exact hP
  have hD : va_D A ((h0, .inr (8, fs44)) :: tl42) := by rw [hf44]; exact hD
  have g3 : fs44[3]? = some (.ref q4) := by rw [hf44, List.getElem?_set_ne (by decide)]; exact g3
  have g31 : fs44[31]? = some (.ref q32) := by rw [hf44, List.getElem?_set_ne (by decide)]; exact g31
  have ef44 : fs44 = [.ref q1, .ref q2, .ref q3, .ref q4, .ref q5, .ref q6, .ref q7, .ref q8, .ref q9, .ref q10, .ref q11, .ref q12, .ref q13, .ref q14, .ref q15, .ref q16, .ref q17, .ref q18, .ref q19, .ref q20, .ref q21, .ref q22, .ref q23, .ref q24, .ref q25, .ref q26, .ref q27, .ref q28, .ref q29, .ref q30, .ref q31, .ref q32, .ref q33, .ref q34, .ref q35, .ref q36, .ref q37, .ref q38, .ref q39, .ref q40, .ref q41, .ref q42, .int 0, .int 0, .int (-1), .int (-1), .int 0, .int 0, .int 0, .int 0, .int 0, .int 0, .int 0] := by rw [hf44, ef43]; rfl
  refine lv_iconst (v := 0) hx hb d_Mod_init_347 (by decide) ?_
  refine lv_istore_n (lv' := [(1, .int 0), (0, .ref h0)]) hx hb d_Mod_init_348 rfl hl (by decide) rfl (fun ls hl => ?_)
  have t3 : ((h0, .inr (8, fs44)) :: tl42 : va_W)[4]? = some (q4, .inl (ca 0, 32, .inl (fun _ => 0))) := v3
  have t31 : ((h0, .inr (8, fs44)) :: tl42 : va_W)[32]? = some (q32, .inl (ca 0, 8, .inl (fun _ => 0))) := v31
  have hs0 : ((((h0, .inr (8, fs44)) :: tl42) : va_W).set 4 (q4, .inl (ca 0, 32, .inl (ed_fi 0)))) = ((h0, .inr (8, fs44)) :: tl42) := by rw [ed_fi_0]; exact ed_same t3
  rw [← hs0] at hP hD
  refine T_Mod_fillH B h0 q4 fs44 ((h0, .inr (8, fs44)) :: tl42) rfl g3 (by show 4 < tl42.length + 1; rw [hm42]; decide) (fun H locs ls hP hD hS hl => ?_) 32 0 H locs ls rfl hP hD hS hl
  obtain ⟨tl43, ht43⟩ : ∃ z : va_W, z = tl42.set 3 (q4, .inl (ca 0, 32, .inl (ed_fi 32))) := ⟨_, rfl⟩
  have hP : va_P D vwCl ((h0, .inr (8, fs44)) :: tl43) H := by rw [ht43]; exact hP
  have hD : va_D A ((h0, .inr (8, fs44)) :: tl43) := by rw [ht43]; exact hD
  have hmX : tl43.length = 42 := by rw [ht43, List.length_set]; exact hm42
  have hm42 := hmX
  have et43 : tl43 = [(q1, .inl (ca 0, 4, .inl (fun _ => 0))), (q2, .inl (ca 0, 4, .inl (fun _ => 0))), (q3, .inl (ca 0, 4, .inl (fun _ => 0))), (q4, .inl (ca 0, 32, .inl (ed_fi 32))), (q5, .inl (ca 0, 32, .inl (fun _ => 0))), (q6, .inl (ca 0, 8, .inl (fun _ => 0))), (q7, .inl (ca 0, 8, .inl (fun _ => 0))), (q8, .inl (ca 0, 8, .inl (fun _ => 0))), (q9, .inl (ca 0, 8, .inl (fun _ => 0))), (q10, .inl (ca 0, 8, .inl (fun _ => 0))), (q11, .inl (ca 0, 8, .inl (fun _ => 0))), (q12, .inl (ca 0, 8, .inl (fun _ => 0))), (q13, .inl (ca 0, 8, .inl (fun _ => 0))), (q14, .inl (ca 0, 8, .inl (fun _ => 0))), (q15, .inl (ca 0, 8, .inl (fun _ => 0))), (q16, .inl (ca 0, 8, .inl (fun _ => 0))), (q17, .inl (ca 0, 8, .inl (fun _ => 0))), (q18, .inl (ca 0, 24, .inl (fun _ => 0))), (q19, .inl (ca 0, 32, .inl (fun _ => 0))), (q20, .inl (ca 6, 16, .inl (fun _ => 0))), (q21, .inl (ca 6, 16, .inl (fun _ => 0))), (q22, .inl (ca 6, 16, .inl (fun _ => 0))), (q23, .inl (ca 0, 16, .inl (fun _ => 0))), (q24, .inl (ca 0, 16, .inl (fun _ => 0))), (q25, .inl (ca 0, 16, .inl (fun _ => 0))), (q26, .inl (ca 0, 16, .inl (fun _ => 0))), (q27, .inl (ca 0, 16, .inl (fun _ => 0))), (q28, .inl (ca 0, 16, .inl (fun _ => 0))), (q29, .inl (ca 0, 64, .inl (fun _ => 0))), (q30, .inl (ca 0, 64, .inl (fun _ => 0))), (q31, .inl (ca 0, 64, .inl (fun _ => 0))), (q32, .inl (ca 0, 8, .inl (fun _ => 0))), (q33, .inl (ca 0, 8, .inl (fun _ => 0))), (q34, .inl (ca 0, 8, .inl (fun _ => 0))), (q35, .inl (ca 0, 8, .inl (fun _ => 0))), (q36, .inl (ca 0, 8, .inl (fun _ => 0))), (q37, .inl (ca 0, 8, .inl (fun _ => 0))), (q38, .inl (ca 0, 8, .inl (fun _ => 0))), (q39, .inl (ca 6, 8, .inl (fun _ => 0))), (q40, .inl (ca 6, 8, .inl (fun _ => 0))), (q41, .inl (ca 0, 8, .inl (fun _ => 0))), (q42, .inl (ca 6, 8, .inl (fun _ => 0)))] := by rw [ht43, et42]; rfl
  have t31 : ((h0, .inr (8, fs44)) :: tl43 : va_W)[32]? = some (q32, .inl (ca 0, 8, .inl (fun _ => 0))) := by rw [ht43]; exact (List.getElem?_set_ne (by decide)).trans t31
  refine lv_iconst (v := 0) hx hb d_Mod_init_368 (by decide) ?_
  refine lv_istore_n (lv' := [(1, .int 0), (0, .ref h0)]) hx hb d_Mod_init_369 rfl hl (by decide) rfl (fun ls hl => ?_)
  have hs0 : ((((h0, .inr (8, fs44)) :: tl43) : va_W).set 32 (q32, .inl (ca 0, 8, .inl (ed_fi 0)))) = ((h0, .inr (8, fs44)) :: tl43) := by rw [ed_fi_0]; exact ed_same t31
  rw [← hs0] at hP hD
  refine T_Mod_fillT B h0 q32 fs44 ((h0, .inr (8, fs44)) :: tl43) rfl g31 (by show 32 < tl43.length + 1; rw [hm42]; decide) (fun H locs ls hP hD hS hl => ?_) 8 0 H locs ls rfl hP hD hS hl
  obtain ⟨tl44, ht44⟩ : ∃ z : va_W, z = tl43.set 31 (q32, .inl (ca 0, 8, .inl (ed_fi 8))) := ⟨_, rfl⟩
  have hP : va_P D vwCl ((h0, .inr (8, fs44)) :: tl44) H := by rw [ht44]; exact hP
  have hD : va_D A ((h0, .inr (8, fs44)) :: tl44) := by rw [ht44]; exact hD
  have hmX : tl44.length = 42 := by rw [ht44, List.length_set]; exact hm42
  have hm42 := hmX
  have et44 : tl44 = [(q1, .inl (ca 0, 4, .inl (fun _ => 0))), (q2, .inl (ca 0, 4, .inl (fun _ => 0))), (q3, .inl (ca 0, 4, .inl (fun _ => 0))), (q4, .inl (ca 0, 32, .inl (ed_fi 32))), (q5, .inl (ca 0, 32, .inl (fun _ => 0))), (q6, .inl (ca 0, 8, .inl (fun _ => 0))), (q7, .inl (ca 0, 8, .inl (fun _ => 0))), (q8, .inl (ca 0, 8, .inl (fun _ => 0))), (q9, .inl (ca 0, 8, .inl (fun _ => 0))), (q10, .inl (ca 0, 8, .inl (fun _ => 0))), (q11, .inl (ca 0, 8, .inl (fun _ => 0))), (q12, .inl (ca 0, 8, .inl (fun _ => 0))), (q13, .inl (ca 0, 8, .inl (fun _ => 0))), (q14, .inl (ca 0, 8, .inl (fun _ => 0))), (q15, .inl (ca 0, 8, .inl (fun _ => 0))), (q16, .inl (ca 0, 8, .inl (fun _ => 0))), (q17, .inl (ca 0, 8, .inl (fun _ => 0))), (q18, .inl (ca 0, 24, .inl (fun _ => 0))), (q19, .inl (ca 0, 32, .inl (fun _ => 0))), (q20, .inl (ca 6, 16, .inl (fun _ => 0))), (q21, .inl (ca 6, 16, .inl (fun _ => 0))), (q22, .inl (ca 6, 16, .inl (fun _ => 0))), (q23, .inl (ca 0, 16, .inl (fun _ => 0))), (q24, .inl (ca 0, 16, .inl (fun _ => 0))), (q25, .inl (ca 0, 16, .inl (fun _ => 0))), (q26, .inl (ca 0, 16, .inl (fun _ => 0))), (q27, .inl (ca 0, 16, .inl (fun _ => 0))), (q28, .inl (ca 0, 16, .inl (fun _ => 0))), (q29, .inl (ca 0, 64, .inl (fun _ => 0))), (q30, .inl (ca 0, 64, .inl (fun _ => 0))), (q31, .inl (ca 0, 64, .inl (fun _ => 0))), (q32, .inl (ca 0, 8, .inl (ed_fi 8))), (q33, .inl (ca 0, 8, .inl (fun _ => 0))), (q34, .inl (ca 0, 8, .inl (fun _ => 0))), (q35, .inl (ca 0, 8, .inl (fun _ => 0))), (q36, .inl (ca 0, 8, .inl (fun _ => 0))), (q37, .inl (ca 0, 8, .inl (fun _ => 0))), (q38, .inl (ca 0, 8, .inl (fun _ => 0))), (q39, .inl (ca 6, 8, .inl (fun _ => 0))), (q40, .inl (ca 6, 8, .inl (fun _ => 0))), (q41, .inl (ca 0, 8, .inl (fun _ => 0))), (q42, .inl (ca 6, 8, .inl (fun _ => 0)))] := by rw [ht44, et43]; rfl
  have hfin : ((h0, .inr (8, fs44)) :: tl44 : va_W) = k_Mod ca h0 q1 q2 q3 q4 q5 q6 q7 q8 q9 q10 q11 q12 q13 q14 q15 q16 q17 q18 q19 q20 q21 q22 q23 q24 q25 q26 q27 q28 q29 q30 q31 q32 q33 q34 q35 q36 q37 q38 q39 q40 q41 q42 := by
    clear hP hD hS hl
    rw [ef44, et44]
    rfl
  rw [hfin] at hP hD
  exact ed_rC B hP hD hS ⟨q1, q2, q3, q4, q5, q6, q7, q8, q9, q10, q11, q12, q13, q14, q15, q16, q17, q18, q19, q20, q21, q22, q23, q24, q25, q26, q27, q28, q29, q30, q31, q32, q33, q34, q35, q36, q37, q38, q39, q40, q41, q42, rfl⟩ d_Mod_init_389
