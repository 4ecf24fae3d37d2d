section EDT
variable {p : Program} {l : Launch} {e : Env} {s : State} {m : MethodId} {args : Array Value} {below : List Frame} {meth : Method} {c : Code} {D : va_G} {ad : Nat → Nat} {ca : Nat → ClassId} {A : Nat → Prop}
abbrev ws_Mod_drop : List Cond := Cond.code y_Mod_drop prog_10_method_41_code 2 (some .int) :: ed_tb
abbrev rm_Mod_drop : Room := { frames := 5, cells := 0, slots := 0, locals := 116 }
def F_Mod_drop (x1 : Int32) (σ : ed_S) : Option (Int32 × ed_S) := (vG x1 8 fun j1 => (vB2 (F_Mod_firstOf (σ 34 0 j1) σ) fun r7 σ5 => (if r7 = x1 then (vG x1 8 fun j11 => vL (ed_st σ5 38 0 j11 1) fun σ15 => (some (0, σ15))) else (vB1 (F_Mod_over x1 5 0 σ5) fun σ9 => (some (1, σ9))))))
set_option maxHeartbeats 4000000 in
set_option maxRecDepth 100000 in
theorem T_Mod_drop {r : Int32} {σ' : ed_S} (B : ed_B p s m args meth c prog_10_method_41_code "ExecutiveDeskModel" 2 D ca) (hr : meth.sig.returnType = (some .int)) (hA : ∀ q : Nat, s.heap.size ≤ q → A q) : ∀ (x1 : Int32) (σ : ed_S), F_Mod_drop  x1 σ = some (r, σ') → ed_G p l e rm_Mod_drop s m args below meth c D ca (md_w ad ca) A (ed_QI D ca (md_w ad ca) A below args s r σ') 2 0 [(0, .ref (ad (pMod 0))), (1, .int x1)] [] σ := by
  have hx := B.1
  have hb := B.2.1
  intro x1 σ  hF H locs ls hP hD hS hl
  have hF : (vG x1 8 fun j1 => (vB2 (F_Mod_firstOf (σ 34 0 j1) σ) fun r7 σ5 => (if r7 = x1 then (vG x1 8 fun j11 => vL (ed_st σ5 38 0 j11 1) fun σ15 => (some (0, σ15))) else (vB1 (F_Mod_over x1 5 0 σ5) fun σ9 => (some (1, σ9)))))) = some (r, σ') := hF
  refine lv_aload_n hx hb d_Mod_drop_0 rfl (lv_at hl 0 rfl) ?_
  refine lv_aload_n hx hb d_Mod_drop_1 rfl (lv_at hl 0 rfl) ?_
  refine gf_Mod_tDevice B hP (by decide) L_Mod_113 d_Mod_drop_2 ?_
  refine lv_iload_n hx hb d_Mod_drop_5 rfl (lv_at hl 1 rfl) ?_
  obtain ⟨j1, ej2, hj3, hn4, hF⟩ := vG_some hF
  refine il_MtDevice B hP (by decide) hn4 ej2 d_Mod_drop_6 ?_
  obtain ⟨r7, σ5, q6, hF⟩ := vB2_some hF
  refine ed_cvI (As := [.int (σ 34 0 j1)]) (rest := []) B hP hD hS hA (C_Mod_firstOf l D ad ca (σ 34 0 j1) σ r7 σ5  q6) me_Mod_firstOf mv_Mod_firstOf L_Mod_256 (ed_rc_Mod B hP (by decide)) ⟨rfl, rfl⟩ ⟨Nat.le_of_ble_eq_true rfl, Nat.le_of_ble_eq_true rfl⟩ rfl rfl hl.1 (lv_room (Nat.le_of_ble_eq_true rfl)) d_Mod_drop_7 (fun H locs hP hD hS => ?_)
  refine lv_iload_n hx hb d_Mod_drop_10 rfl (lv_at hl 1 rfl) ?_
  refine lv_icmp_ne (tgt := 23) hx hb d_Mod_drop_11 (by decide) (fun c8 => ?_) (fun c8 => ?_)
  · have hF := vIf c8 hF
    refine lv_aload_n hx hb d_Mod_drop_23 rfl (lv_at hl 0 rfl) ?_
    refine lv_iload_n hx hb d_Mod_drop_24 rfl (lv_at hl 1 rfl) ?_
    refine lv_iconst (v := 5) hx hb d_Mod_drop_25 (by decide) ?_
    refine lv_iconst (v := 0) hx hb d_Mod_drop_26 (by decide) ?_
    obtain ⟨σ9, q10, hF⟩ := vB1_some hF
    refine ed_cvV (As := [.int x1, .int 5, .int 0]) (rest := []) B hP hD hS hA (C_Mod_over l D ad ca x1 5 0 σ5 σ9  q10) me_Mod_over mv_Mod_over L_Mod_259 (ed_rc_Mod B hP (by decide)) ⟨rfl, rfl⟩ ⟨Nat.le_of_ble_eq_true rfl, Nat.le_of_ble_eq_true rfl⟩ rfl rfl hl.1 (lv_room (Nat.le_of_ble_eq_true rfl)) d_Mod_drop_27 (fun H locs hP hD hS => ?_)
    refine lv_iconst (v := 1) hx hb d_Mod_drop_30 (by decide) ?_
    exact ed_rI B hr hA hP hD hS (vP hF) d_Mod_drop_31
  · have hF := vIt c8 hF
    refine lv_aload_n hx hb d_Mod_drop_14 rfl (lv_at hl 0 rfl) ?_
    refine gf_Mod_tCancel B hP (by decide) L_Mod_125 d_Mod_drop_15 ?_
    refine lv_iload_n hx hb d_Mod_drop_18 rfl (lv_at hl 1 rfl) ?_
    refine lv_iconst (v := 1) hx hb d_Mod_drop_19 (by decide) ?_
    obtain ⟨j11, ej12, hj13, hn14, hF⟩ := vG_some hF
    obtain ⟨σ15, e16, hF⟩ := vL_some hF
    refine is_MtCancel B hP hD hS (by decide) hn14 ej12 (by decide) e16 d_Mod_drop_20 (fun H locs hP hD hS => ?_)
    refine lv_iconst (v := 0) hx hb d_Mod_drop_21 (by decide) ?_
    exact ed_rI B hr hA hP hD hS (vP hF) d_Mod_drop_22
set_option maxHeartbeats 4000000 in
set_option maxRecDepth 100000 in
theorem C_Mod_drop (l : Launch) (D : va_G) (ad : Nat → Nat) (ca : Nat → ClassId) (x1 : Int32) (σ : ed_S) (r : Int32) (σ' : ed_S) (hF : F_Mod_drop x1 σ = some (r, σ')) : ed_MI l y_Mod_drop ws_Mod_drop rm_Mod_drop D ca (md_w ad ca) [.ref (ad (pMod 0)), .int x1] σ r σ' := by
  refine ed_metI (cc := prog_10_method_41_code) (own := "ExecutiveDeskModel") (nL := 2) (ret := (some .int)) (by decide) rfl rfl (Nat.le_of_ble_eq_true rfl) ?_
  intro p e s m args below meth c A B hr hA
  exact T_Mod_drop B hr hA x1 σ  hF
abbrev ws_Mod_cancel : List Cond := Cond.code y_Mod_cancel prog_10_method_42_code 3 (some .int) :: ed_tb
abbrev rm_Mod_cancel : Room := { frames := 6, cells := 0, slots := 0, locals := 137 }
def F_Mod_cancel (x1 : Int32) (σ : ed_S) : Option (Int32 × ed_S) := (if 0 ≤ (σ 44 0 0) then (vB2 (F_Mod_is x1 0 7 σ) fun r4 σ2 => (if r4 = 0 then (some ((-1), σ2)) else (vG x1 8 fun j6 => (if (σ2 31 0 j6) = 0 then (vB2 (F_Mod_drop x1 σ2) fun r13 σ11 => (vB2 (F_Mod_end r13 σ11) fun r16 σ14 => (some (r16, σ14)))) else (some ((-1), σ2)))))) else (some ((-3), σ)))
set_option maxHeartbeats 4000000 in
set_option maxRecDepth 100000 in
theorem T_Mod_cancel {r : Int32} {σ' : ed_S} (B : ed_B p s m args meth c prog_10_method_42_code "ExecutiveDeskModel" 3 D ca) (hr : meth.sig.returnType = (some .int)) (hA : ∀ q : Nat, s.heap.size ≤ q → A q) : ∀ (x1 : Int32) (σ : ed_S), F_Mod_cancel  x1 σ = some (r, σ') → ed_G p l e rm_Mod_cancel s m args below meth c D ca (md_w ad ca) A (ed_QI D ca (md_w ad ca) A below args s r σ') 3 0 [(0, .ref (ad (pMod 0))), (1, .int x1)] [] σ := by
  have hx := B.1
  have hb := B.2.1
  intro x1 σ  hF H locs ls hP hD hS hl
  have hF : (if 0 ≤ (σ 44 0 0) then (vB2 (F_Mod_is x1 0 7 σ) fun r4 σ2 => (if r4 = 0 then (some ((-1), σ2)) else (vG x1 8 fun j6 => (if (σ2 31 0 j6) = 0 then (vB2 (F_Mod_drop x1 σ2) fun r13 σ11 => (vB2 (F_Mod_end r13 σ11) fun r16 σ14 => (some (r16, σ14)))) else (some ((-1), σ2)))))) else (some ((-3), σ))) = some (r, σ') := hF
  refine lv_aload_n hx hb d_Mod_cancel_0 rfl (lv_at hl 0 rfl) ?_
  refine gf_Mod_running B hP (by decide) L_Mod_137 d_Mod_cancel_1 ?_
  refine lv_if_ge (tgt := 10) hx hb d_Mod_cancel_4 (by decide) (fun c1 => ?_) (fun c1 => ?_)
  · have hF := vIt c1 hF
    refine lv_iload_n hx hb d_Mod_cancel_10 rfl (lv_at hl 1 rfl) ?_
    refine lv_iconst (v := 0) hx hb d_Mod_cancel_11 (by decide) ?_
    refine lv_bipush (v := 7) hx hb d_Mod_cancel_12 (by decide) ?_
    obtain ⟨r4, σ2, q3, hF⟩ := vB2_some hF
    refine ed_csI (As := [.int x1, .int 0, .int 7]) (rest := []) B hP hD hS hA (C_Mod_is l D ad ca x1 0 7 σ r4 σ2  q3) me_Mod_is st_Mod_is L_Mod_157 ⟨rfl, rfl⟩ ⟨Nat.le_of_ble_eq_true rfl, Nat.le_of_ble_eq_true rfl⟩ rfl rfl hl.1 (lv_room (Nat.le_of_ble_eq_true rfl)) d_Mod_cancel_14 (fun H locs hP hD hS => ?_)
    refine lv_if_eq (tgt := 29) hx hb d_Mod_cancel_17 (by decide) (fun c5 => ?_) (fun c5 => ?_)
    · have hF := vIt c5 hF
      refine lv_iconst (v := (-1)) hx hb d_Mod_cancel_29 (by decide) ?_
      exact ed_rI B hr hA hP hD hS (vP hF) d_Mod_cancel_30
    · have hF := vIf c5 hF
      refine lv_aload_n hx hb d_Mod_cancel_20 rfl (lv_at hl 0 rfl) ?_
      refine gf_Mod_tState B hP (by decide) L_Mod_104 d_Mod_cancel_21 ?_
      refine lv_iload_n hx hb d_Mod_cancel_24 rfl (lv_at hl 1 rfl) ?_
      obtain ⟨j6, ej7, hj8, hn9, hF⟩ := vG_some hF
      refine il_MtState B hP (by decide) hn9 ej7 d_Mod_cancel_25 ?_
      refine lv_if_eq (tgt := 31) hx hb d_Mod_cancel_26 (by decide) (fun c10 => ?_) (fun c10 => ?_)
      · have hF := vIt c10 hF
        refine lv_aload_n hx hb d_Mod_cancel_31 rfl (lv_at hl 0 rfl) ?_
        refine lv_iload_n hx hb d_Mod_cancel_32 rfl (lv_at hl 1 rfl) ?_
        obtain ⟨r13, σ11, q12, hF⟩ := vB2_some hF
        refine ed_cvI (As := [.int x1]) (rest := []) B hP hD hS hA (C_Mod_drop l D ad ca x1 σ2 r13 σ11  q12) me_Mod_drop mv_Mod_drop L_Mod_263 (ed_rc_Mod B hP (by decide)) ⟨rfl, rfl⟩ ⟨Nat.le_of_ble_eq_true rfl, Nat.le_of_ble_eq_true rfl⟩ rfl rfl hl.1 (lv_room (Nat.le_of_ble_eq_true rfl)) d_Mod_cancel_33 (fun H locs hP hD hS => ?_)
        refine lv_istore_n (lv' := [(2, .int r13), (0, .ref (ad (pMod 0))), (1, .int x1)]) hx hb d_Mod_cancel_36 rfl hl (by decide) rfl (fun ls hl => ?_)
        refine lv_aload_n hx hb d_Mod_cancel_37 rfl (lv_at hl 1 rfl) ?_
        refine lv_iload_n hx hb d_Mod_cancel_38 rfl (lv_at hl 0 rfl) ?_
        obtain ⟨r16, σ14, q15, hF⟩ := vB2_some hF
        refine ed_cvI (As := [.int r13]) (rest := []) B hP hD hS hA (C_Mod_end l D ad ca r13 σ11 r16 σ14  q15) me_Mod_end mv_Mod_end L_Mod_168 (ed_rc_Mod B hP (by decide)) ⟨rfl, rfl⟩ ⟨Nat.le_of_ble_eq_true rfl, Nat.le_of_ble_eq_true rfl⟩ rfl rfl hl.1 (lv_room (Nat.le_of_ble_eq_true rfl)) d_Mod_cancel_39 (fun H locs hP hD hS => ?_)
        exact ed_rI B hr hA hP hD hS (vP hF) d_Mod_cancel_42
      · have hF := vIf c10 hF
        refine lv_iconst (v := (-1)) hx hb d_Mod_cancel_29 (by decide) ?_
        exact ed_rI B hr hA hP hD hS (vP hF) d_Mod_cancel_30
  · have hF := vIf c1 hF
    refine lv_bipush (v := (-3)) hx hb d_Mod_cancel_7 (by decide) ?_
    exact ed_rI B hr hA hP hD hS (vP hF) d_Mod_cancel_9
set_option maxHeartbeats 4000000 in
set_option maxRecDepth 100000 in
theorem C_Mod_cancel (l : Launch) (D : va_G) (ad : Nat → Nat) (ca : Nat → ClassId) (x1 : Int32) (σ : ed_S) (r : Int32) (σ' : ed_S) (hF : F_Mod_cancel x1 σ = some (r, σ')) : ed_MI l y_Mod_cancel ws_Mod_cancel rm_Mod_cancel D ca (md_w ad ca) [.ref (ad (pMod 0)), .int x1] σ r σ' := by
  refine ed_metI (cc := prog_10_method_42_code) (own := "ExecutiveDeskModel") (nL := 3) (ret := (some .int)) (by decide) rfl rfl (Nat.le_of_ble_eq_true rfl) ?_
  intro p e s m args below meth c A B hr hA
  exact T_Mod_cancel B hr hA x1 σ  hF
abbrev ws_Mod_exit : List Cond := Cond.code y_Mod_exit prog_10_method_43_code 4 (some .int) :: ed_tb
abbrev rm_Mod_exit : Room := { frames := 6, cells := 0, slots := 0, locals := 137 }
def F_Mod_exit_177 : Nat → Int32 → Int32 → Int32 → ed_S → Option (Int32 × ed_S)
  | 0, _, _, _, _ => none
  | n + 1, x1, x2, x3, σ => (if ((8 * x2) + 8) ≤ x3 then (vB2 (F_Mod_end x1 σ) fun r4 σ2 => (some (r4, σ2))) else (vG x2 4 fun j5 => (if (σ 1 0 j5) = 0 then (vG x3 32 fun j13 => vL (ed_st σ 3 0 j13 (-1)) fun σ17 => ((F_Mod_exit_177  n) x1 x2 (x3 + 1) σ17)) else (vB2 (F_Mod_end x1 σ) fun r12 σ10 => (some (r12, σ10))))))
def F_Mod_exit_125 : Nat → Int32 → Int32 → Int32 → ed_S → Option (Int32 × ed_S)
  | 0, _, _, _, _ => none
  | n + 1, x1, x2, x3, σ => (if 8 ≤ x3 then (vG x2 4 fun j2 => (vG x2 4 fun j6 => vL (ed_st σ 1 0 j6 ((σ 1 0 j2) - 1)) fun σ10 => (F_Mod_exit_177  ed_fu x1 x2 (8 * x2) σ10))) else (vG x3 8 fun j12 => (if (σ 31 0 j12) = 0 then (vG x3 8 fun j17 => (if (σ 33 0 j17) = x1 then (vB2 (F_Mod_drop x3 σ) fun r24 σ22 => ((F_Mod_exit_125  n) x1 x2 (x3 + 1) σ22)) else ((F_Mod_exit_125  n) x1 x2 (x3 + 1) σ))) else ((F_Mod_exit_125  n) x1 x2 (x3 + 1) σ))))
def F_Mod_exit_54 : Nat → Int32 → Int32 → Int32 → ed_S → Option (Int32 × ed_S)
  | 0, _, _, _, _ => none
  | n + 1, x1, x2, x3, σ => (if 16 ≤ x3 then (F_Mod_exit_125  ed_fu x1 x2 0 σ) else (vG x3 16 fun j2 => (if (σ 19 0 j2) = 0 then ((F_Mod_exit_54  n) x1 x2 (x3 + 1) σ) else (vG x3 16 fun j7 => (if (σ 22 0 j7) = 2 then (vG x3 16 fun j12 => (if (σ 25 0 j12) = x1 then (vG x3 16 fun j17 => vL (ed_st σ 25 0 j17 (-1)) fun σ21 => (vG x3 16 fun j23 => vL (ed_st σ21 24 0 j23 0) fun σ27 => (vG x3 16 fun j29 => vL (ed_st σ27 21 0 j29 1) fun σ33 => (vB1 (F_Mod_release  σ33) fun σ35 => ((F_Mod_exit_54  n) x1 x2 (x3 + 1) σ35))))) else ((F_Mod_exit_54  n) x1 x2 (x3 + 1) σ))) else ((F_Mod_exit_54  n) x1 x2 (x3 + 1) σ))))))
def F_Mod_exit (σ : ed_S) : Option (Int32 × ed_S) := (if 0 ≤ (σ 44 0 0) then (if (σ 47 0 0) = 1 then (some ((-4), σ)) else (vG (σ 44 0 0) 8 fun j3 => (vG (σ 44 0 0) 8 fun j7 => vL (ed_st σ 7 0 j7 3) fun σ11 => (vL (ed_st σ11 44 0 0 (-1)) fun σ13 => (vG (σ 44 0 0) 8 fun j15 => vL (ed_st σ13 9 0 j15 0) fun σ19 => (F_Mod_exit_54  ed_fu (σ 44 0 0) (σ 5 0 j3) 0 σ19)))))) else (some ((-3), σ)))
set_option maxHeartbeats 4000000 in
set_option maxRecDepth 100000 in
theorem T_Mod_exit_177 {r : Int32} {σ' : ed_S} (B : ed_B p s m args meth c prog_10_method_43_code "ExecutiveDeskModel" 4 D ca) (hr : meth.sig.returnType = (some .int)) (hA : ∀ q : Nat, s.heap.size ≤ q → A q) : ∀ (n : Nat) (x1 : Int32) (x2 : Int32) (x3 : Int32) (σ : ed_S), F_Mod_exit_177  n x1 x2 x3 σ = some (r, σ') → ed_G p l e rm_Mod_exit s m args below meth c D ca (md_w ad ca) A (ed_QI D ca (md_w ad ca) A below args s r σ') 4 177 [(0, .ref (ad (pMod 0))), (1, .int x1), (2, .int x2), (3, .int x3)] [] σ := by
  have hx := B.1
  have hb := B.2.1
  intro n
  induction n with
  | zero => intro x1 x2 x3 σ  hF; exact absurd hF (by intro h; cases h)
  | succ n kk177 =>
    intro x1 x2 x3 σ  hF H locs ls hP hD hS hl
    have hF : (if ((8 * x2) + 8) ≤ x3 then (vB2 (F_Mod_end x1 σ) fun r4 σ2 => (some (r4, σ2))) else (vG x2 4 fun j5 => (if (σ 1 0 j5) = 0 then (vG x3 32 fun j13 => vL (ed_st σ 3 0 j13 (-1)) fun σ17 => ((F_Mod_exit_177  n) x1 x2 (x3 + 1) σ17)) else (vB2 (F_Mod_end x1 σ) fun r12 σ10 => (some (r12, σ10)))))) = some (r, σ') := hF
    refine lv_iload_n hx hb d_Mod_exit_177 rfl (lv_at hl 3 rfl) ?_
    refine lv_bipush (v := 8) hx hb d_Mod_exit_178 (by decide) ?_
    refine lv_iload_n hx hb d_Mod_exit_180 rfl (lv_at hl 2 rfl) ?_
    refine lv_imul hx hb d_Mod_exit_181 ?_
    refine lv_bipush (v := 8) hx hb d_Mod_exit_182 (by decide) ?_
    refine lv_iadd hx hb d_Mod_exit_184 ?_
    refine lv_icmp_ge (tgt := 210) hx hb d_Mod_exit_185 (by decide) (fun c1 => ?_) (fun c1 => ?_)
    · have hF := vIt c1 hF
      refine lv_aload_n hx hb d_Mod_exit_210 rfl (lv_at hl 0 rfl) ?_
      refine lv_iload_n hx hb d_Mod_exit_211 rfl (lv_at hl 1 rfl) ?_
      obtain ⟨r4, σ2, q3, hF⟩ := vB2_some hF
      refine ed_cvI (As := [.int x1]) (rest := []) B hP hD hS hA (C_Mod_end l D ad ca x1 σ r4 σ2  q3) me_Mod_end mv_Mod_end L_Mod_168 (ed_rc_Mod B hP (by decide)) ⟨rfl, rfl⟩ ⟨Nat.le_of_ble_eq_true rfl, Nat.le_of_ble_eq_true rfl⟩ rfl rfl hl.1 (lv_room (Nat.le_of_ble_eq_true rfl)) d_Mod_exit_212 (fun H locs hP hD hS => ?_)
      exact ed_rI B hr hA hP hD hS (vP hF) d_Mod_exit_215
    · have hF := vIf c1 hF
      refine lv_aload_n hx hb d_Mod_exit_188 rfl (lv_at hl 0 rfl) ?_
      refine gf_Mod_alive B hP (by decide) L_Mod_13 d_Mod_exit_189 ?_
      refine lv_iload_n hx hb d_Mod_exit_192 rfl (lv_at hl 2 rfl) ?_
      obtain ⟨j5, ej6, hj7, hn8, hF⟩ := vG_some hF
      refine il_Malive B hP (by decide) hn8 ej6 d_Mod_exit_193 ?_
      refine lv_if_ne (tgt := 210) hx hb d_Mod_exit_194 (by decide) (fun c9 => ?_) (fun c9 => ?_)
      · have hF := vIf c9 hF
        refine lv_aload_n hx hb d_Mod_exit_210 rfl (lv_at hl 0 rfl) ?_
        refine lv_iload_n hx hb d_Mod_exit_211 rfl (lv_at hl 1 rfl) ?_
        obtain ⟨r12, σ10, q11, hF⟩ := vB2_some hF
        refine ed_cvI (As := [.int x1]) (rest := []) B hP hD hS hA (C_Mod_end l D ad ca x1 σ r12 σ10  q11) me_Mod_end mv_Mod_end L_Mod_168 (ed_rc_Mod B hP (by decide)) ⟨rfl, rfl⟩ ⟨Nat.le_of_ble_eq_true rfl, Nat.le_of_ble_eq_true rfl⟩ rfl rfl hl.1 (lv_room (Nat.le_of_ble_eq_true rfl)) d_Mod_exit_212 (fun H locs hP hD hS => ?_)
        exact ed_rI B hr hA hP hD hS (vP hF) d_Mod_exit_215
      · have hF := vIt c9 hF
        refine lv_aload_n hx hb d_Mod_exit_197 rfl (lv_at hl 0 rfl) ?_
        refine gf_Mod_handleObject B hP (by decide) L_Mod_19 d_Mod_exit_198 ?_
        refine lv_iload_n hx hb d_Mod_exit_201 rfl (lv_at hl 3 rfl) ?_
        refine lv_iconst (v := (-1)) hx hb d_Mod_exit_202 (by decide) ?_
        obtain ⟨j13, ej14, hj15, hn16, hF⟩ := vG_some hF
        obtain ⟨σ17, e18, hF⟩ := vL_some hF
        refine is_MhandleObject B hP hD hS (by decide) hn16 ej14 e18 d_Mod_exit_203 (fun H locs hP hD hS => ?_)
        refine lv_iinc (v := (x3 + 1)) (lv' := [(3, .int (x3 + 1)), (0, .ref (ad (pMod 0))), (1, .int x1), (2, .int x2)]) hx hb d_Mod_exit_204 hl (k := 3) rfl rfl (by decide) rfl (fun ls hl => ?_)
        refine lv_goto (tgt := 177) hx hb d_Mod_exit_207 (by decide) ?_
        exact kk177 x1 x2 (x3 + 1) σ17  hF _ _ _ hP hD hS (lv_sub hl [1, 2, 3, 0] rfl)
set_option maxHeartbeats 4000000 in
set_option maxRecDepth 100000 in
theorem T_Mod_exit_125 {r : Int32} {σ' : ed_S} (B : ed_B p s m args meth c prog_10_method_43_code "ExecutiveDeskModel" 4 D ca) (hr : meth.sig.returnType = (some .int)) (hA : ∀ q : Nat, s.heap.size ≤ q → A q) : ∀ (n : Nat) (x1 : Int32) (x2 : Int32) (x3 : Int32) (σ : ed_S), F_Mod_exit_125  n x1 x2 x3 σ = some (r, σ') → ed_G p l e rm_Mod_exit s m args below meth c D ca (md_w ad ca) A (ed_QI D ca (md_w ad ca) A below args s r σ') 4 125 [(0, .ref (ad (pMod 0))), (1, .int x1), (2, .int x2), (3, .int x3)] [] σ := by
  have hx := B.1
  have hb := B.2.1
  intro n
  induction n with
  | zero => intro x1 x2 x3 σ  hF; exact absurd hF (by intro h; cases h)
  | succ n kk125 =>
    intro x1 x2 x3 σ  hF H locs ls hP hD hS hl
    have hF : (if 8 ≤ x3 then (vG x2 4 fun j2 => (vG x2 4 fun j6 => vL (ed_st σ 1 0 j6 ((σ 1 0 j2) - 1)) fun σ10 => (F_Mod_exit_177  ed_fu x1 x2 (8 * x2) σ10))) else (vG x3 8 fun j12 => (if (σ 31 0 j12) = 0 then (vG x3 8 fun j17 => (if (σ 33 0 j17) = x1 then (vB2 (F_Mod_drop x3 σ) fun r24 σ22 => ((F_Mod_exit_125  n) x1 x2 (x3 + 1) σ22)) else ((F_Mod_exit_125  n) x1 x2 (x3 + 1) σ))) else ((F_Mod_exit_125  n) x1 x2 (x3 + 1) σ)))) = some (r, σ') := hF
    refine lv_iload_n hx hb d_Mod_exit_125 rfl (lv_at hl 3 rfl) ?_
    refine lv_bipush (v := 8) hx hb d_Mod_exit_126 (by decide) ?_
    refine lv_icmp_ge (tgt := 162) hx hb d_Mod_exit_128 (by decide) (fun c1 => ?_) (fun c1 => ?_)
    · have hF := vIt c1 hF
      refine lv_aload_n hx hb d_Mod_exit_162 rfl (lv_at hl 0 rfl) ?_
      refine gf_Mod_alive B hP (by decide) L_Mod_13 d_Mod_exit_163 ?_
      refine lv_iload_n hx hb d_Mod_exit_166 rfl (lv_at hl 2 rfl) ?_
      refine lv_dup2_11 hx hb d_Mod_exit_167 rfl rfl ?_
      obtain ⟨j2, ej3, hj4, hn5, hF⟩ := vG_some hF
      refine il_Malive B hP (by decide) hn5 ej3 d_Mod_exit_168 ?_
      refine lv_iconst (v := 1) hx hb d_Mod_exit_169 (by decide) ?_
      refine lv_isub hx hb d_Mod_exit_170 ?_
      obtain ⟨j6, ej7, hj8, hn9, hF⟩ := vG_some hF
      obtain ⟨σ10, e11, hF⟩ := vL_some hF
      refine is_Malive B hP hD hS (by decide) hn9 ej7 e11 d_Mod_exit_171 (fun H locs hP hD hS => ?_)
      refine lv_bipush (v := 8) hx hb d_Mod_exit_172 (by decide) ?_
      refine lv_iload_n hx hb d_Mod_exit_174 rfl (lv_at hl 2 rfl) ?_
      refine lv_imul hx hb d_Mod_exit_175 ?_
      refine lv_istore_n (lv' := [(3, .int (8 * x2)), (0, .ref (ad (pMod 0))), (1, .int x1), (2, .int x2)]) hx hb d_Mod_exit_176 rfl hl (by decide) rfl (fun ls hl => ?_)
      exact T_Mod_exit_177 B hr hA  ed_fu x1 x2 (8 * x2) σ10  hF _ _ _ hP hD hS (lv_sub hl [1, 2, 3, 0] rfl)
    · have hF := vIf c1 hF
      refine lv_aload_n hx hb d_Mod_exit_131 rfl (lv_at hl 0 rfl) ?_
      refine gf_Mod_tState B hP (by decide) L_Mod_104 d_Mod_exit_132 ?_
      refine lv_iload_n hx hb d_Mod_exit_135 rfl (lv_at hl 3 rfl) ?_
      obtain ⟨j12, ej13, hj14, hn15, hF⟩ := vG_some hF
      refine il_MtState B hP (by decide) hn15 ej13 d_Mod_exit_136 ?_
      refine lv_if_ne (tgt := 156) hx hb d_Mod_exit_137 (by decide) (fun c16 => ?_) (fun c16 => ?_)
      · have hF := vIf c16 hF
        refine lv_iinc (v := (x3 + 1)) (lv' := [(3, .int (x3 + 1)), (0, .ref (ad (pMod 0))), (1, .int x1), (2, .int x2)]) hx hb d_Mod_exit_156 hl (k := 3) rfl rfl (by decide) rfl (fun ls hl => ?_)
        refine lv_goto (tgt := 125) hx hb d_Mod_exit_159 (by decide) ?_
        exact kk125 x1 x2 (x3 + 1) σ  hF _ _ _ hP hD hS (lv_sub hl [1, 2, 3, 0] rfl)
      · have hF := vIt c16 hF
        refine lv_aload_n hx hb d_Mod_exit_140 rfl (lv_at hl 0 rfl) ?_
        refine gf_Mod_tThread B hP (by decide) L_Mod_110 d_Mod_exit_141 ?_
        refine lv_iload_n hx hb d_Mod_exit_144 rfl (lv_at hl 3 rfl) ?_
        obtain ⟨j17, ej18, hj19, hn20, hF⟩ := vG_some hF
        refine il_MtThread B hP (by decide) hn20 ej18 d_Mod_exit_145 ?_
        refine lv_iload_n hx hb d_Mod_exit_146 rfl (lv_at hl 1 rfl) ?_
        refine lv_icmp_ne (tgt := 156) hx hb d_Mod_exit_147 (by decide) (fun c21 => ?_) (fun c21 => ?_)
        · have hF := vIf c21 hF
          refine lv_iinc (v := (x3 + 1)) (lv' := [(3, .int (x3 + 1)), (0, .ref (ad (pMod 0))), (1, .int x1), (2, .int x2)]) hx hb d_Mod_exit_156 hl (k := 3) rfl rfl (by decide) rfl (fun ls hl => ?_)
          refine lv_goto (tgt := 125) hx hb d_Mod_exit_159 (by decide) ?_
          exact kk125 x1 x2 (x3 + 1) σ  hF _ _ _ hP hD hS (lv_sub hl [1, 2, 3, 0] rfl)
        · have hF := vIt c21 hF
          refine lv_aload_n hx hb d_Mod_exit_150 rfl (lv_at hl 0 rfl) ?_
          refine lv_iload_n hx hb d_Mod_exit_151 rfl (lv_at hl 3 rfl) ?_
          obtain ⟨r24, σ22, q23, hF⟩ := vB2_some hF
          refine ed_cvI (As := [.int x3]) (rest := []) B hP hD hS hA (C_Mod_drop l D ad ca x3 σ r24 σ22  q23) me_Mod_drop mv_Mod_drop L_Mod_263 (ed_rc_Mod B hP (by decide)) ⟨rfl, rfl⟩ ⟨Nat.le_of_ble_eq_true rfl, Nat.le_of_ble_eq_true rfl⟩ rfl rfl hl.1 (lv_room (Nat.le_of_ble_eq_true rfl)) d_Mod_exit_152 (fun H locs hP hD hS => ?_)
          refine lv_pop hx hb d_Mod_exit_155 rfl ?_
          refine lv_iinc (v := (x3 + 1)) (lv' := [(3, .int (x3 + 1)), (0, .ref (ad (pMod 0))), (1, .int x1), (2, .int x2)]) hx hb d_Mod_exit_156 hl (k := 3) rfl rfl (by decide) rfl (fun ls hl => ?_)
          refine lv_goto (tgt := 125) hx hb d_Mod_exit_159 (by decide) ?_
          exact kk125 x1 x2 (x3 + 1) σ22  hF _ _ _ hP hD hS (lv_sub hl [1, 2, 3, 0] rfl)
set_option maxHeartbeats 4000000 in
set_option maxRecDepth 100000 in
theorem T_Mod_exit_54 {r : Int32} {σ' : ed_S} (B : ed_B p s m args meth c prog_10_method_43_code "ExecutiveDeskModel" 4 D ca) (hr : meth.sig.returnType = (some .int)) (hA : ∀ q : Nat, s.heap.size ≤ q → A q) : ∀ (n : Nat) (x1 : Int32) (x2 : Int32) (x3 : Int32) (σ : ed_S), F_Mod_exit_54  n x1 x2 x3 σ = some (r, σ') → ed_G p l e rm_Mod_exit s m args below meth c D ca (md_w ad ca) A (ed_QI D ca (md_w ad ca) A below args s r σ') 4 54 [(0, .ref (ad (pMod 0))), (1, .int x1), (2, .int x2), (3, .int x3)] [] σ := by
  have hx := B.1
  have hb := B.2.1
  intro n
  induction n with
  | zero => intro x1 x2 x3 σ  hF; exact absurd hF (by intro h; cases h)
  | succ n kk54 =>
    intro x1 x2 x3 σ  hF H locs ls hP hD hS hl
    have hF : (if 16 ≤ x3 then (F_Mod_exit_125  ed_fu x1 x2 0 σ) else (vG x3 16 fun j2 => (if (σ 19 0 j2) = 0 then ((F_Mod_exit_54  n) x1 x2 (x3 + 1) σ) else (vG x3 16 fun j7 => (if (σ 22 0 j7) = 2 then (vG x3 16 fun j12 => (if (σ 25 0 j12) = x1 then (vG x3 16 fun j17 => vL (ed_st σ 25 0 j17 (-1)) fun σ21 => (vG x3 16 fun j23 => vL (ed_st σ21 24 0 j23 0) fun σ27 => (vG x3 16 fun j29 => vL (ed_st σ27 21 0 j29 1) fun σ33 => (vB1 (F_Mod_release  σ33) fun σ35 => ((F_Mod_exit_54  n) x1 x2 (x3 + 1) σ35))))) else ((F_Mod_exit_54  n) x1 x2 (x3 + 1) σ))) else ((F_Mod_exit_54  n) x1 x2 (x3 + 1) σ)))))) = some (r, σ') := hF
    refine lv_iload_n hx hb d_Mod_exit_54 rfl (lv_at hl 3 rfl) ?_
    refine lv_bipush (v := 16) hx hb d_Mod_exit_55 (by decide) ?_
    refine lv_icmp_ge (tgt := 123) hx hb d_Mod_exit_57 (by decide) (fun c1 => ?_) (fun c1 => ?_)
    · have hF := vIt c1 hF
      refine lv_iconst (v := 0) hx hb d_Mod_exit_123 (by decide) ?_
      refine lv_istore_n (lv' := [(3, .int 0), (0, .ref (ad (pMod 0))), (1, .int x1), (2, .int x2)]) hx hb d_Mod_exit_124 rfl hl (by decide) rfl (fun ls hl => ?_)
      exact T_Mod_exit_125 B hr hA  ed_fu x1 x2 0 σ  hF _ _ _ hP hD hS (lv_sub hl [1, 2, 3, 0] rfl)
    · have hF := vIf c1 hF
      refine lv_aload_n hx hb d_Mod_exit_60 rfl (lv_at hl 0 rfl) ?_
      refine gf_Mod_there B hP (by decide) L_Mod_67 d_Mod_exit_61 ?_
      refine lv_iload_n hx hb d_Mod_exit_64 rfl (lv_at hl 3 rfl) ?_
      obtain ⟨j2, ej3, hj4, hn5, hF⟩ := vG_some hF
      refine il_Mthere B hP (by decide) hn5 ej3 d_Mod_exit_65 ?_
      refine lv_if_eq (tgt := 117) hx hb d_Mod_exit_66 (by decide) (fun c6 => ?_) (fun c6 => ?_)
      · have hF := vIt c6 hF
        refine lv_iinc (v := (x3 + 1)) (lv' := [(3, .int (x3 + 1)), (0, .ref (ad (pMod 0))), (1, .int x1), (2, .int x2)]) hx hb d_Mod_exit_117 hl (k := 3) rfl rfl (by decide) rfl (fun ls hl => ?_)
        refine lv_goto (tgt := 54) hx hb d_Mod_exit_120 (by decide) ?_
        exact kk54 x1 x2 (x3 + 1) σ  hF _ _ _ hP hD hS (lv_sub hl [1, 2, 3, 0] rfl)
      · have hF := vIf c6 hF
        refine lv_aload_n hx hb d_Mod_exit_69 rfl (lv_at hl 0 rfl) ?_
        refine gf_Mod_type B hP (by decide) L_Mod_77 d_Mod_exit_70 ?_
        refine lv_iload_n hx hb d_Mod_exit_73 rfl (lv_at hl 3 rfl) ?_
        obtain ⟨j7, ej8, hj9, hn10, hF⟩ := vG_some hF
        refine il_Mtype B hP (by decide) hn10 ej8 d_Mod_exit_74 ?_
        refine lv_iconst (v := 2) hx hb d_Mod_exit_75 (by decide) ?_
        refine lv_icmp_ne (tgt := 117) hx hb d_Mod_exit_76 (by decide) (fun c11 => ?_) (fun c11 => ?_)
        · have hF := vIf c11 hF
          refine lv_iinc (v := (x3 + 1)) (lv' := [(3, .int (x3 + 1)), (0, .ref (ad (pMod 0))), (1, .int x1), (2, .int x2)]) hx hb d_Mod_exit_117 hl (k := 3) rfl rfl (by decide) rfl (fun ls hl => ?_)
          refine lv_goto (tgt := 54) hx hb d_Mod_exit_120 (by decide) ?_
          exact kk54 x1 x2 (x3 + 1) σ  hF _ _ _ hP hD hS (lv_sub hl [1, 2, 3, 0] rfl)
        · have hF := vIt c11 hF
          refine lv_aload_n hx hb d_Mod_exit_79 rfl (lv_at hl 0 rfl) ?_
          refine gf_Mod_owner B hP (by decide) L_Mod_86 d_Mod_exit_80 ?_
          refine lv_iload_n hx hb d_Mod_exit_83 rfl (lv_at hl 3 rfl) ?_
          obtain ⟨j12, ej13, hj14, hn15, hF⟩ := vG_some hF
          refine il_Mowner B hP (by decide) hn15 ej13 d_Mod_exit_84 ?_
          refine lv_iload_n hx hb d_Mod_exit_85 rfl (lv_at hl 1 rfl) ?_
          refine lv_icmp_eq (tgt := 92) hx hb d_Mod_exit_86 (by decide) (fun c16 => ?_) (fun c16 => ?_)
          · have hF := vIt c16 hF
            refine lv_aload_n hx hb d_Mod_exit_92 rfl (lv_at hl 0 rfl) ?_
            refine gf_Mod_owner B hP (by decide) L_Mod_86 d_Mod_exit_93 ?_
            refine lv_iload_n hx hb d_Mod_exit_96 rfl (lv_at hl 3 rfl) ?_
            refine lv_iconst (v := (-1)) hx hb d_Mod_exit_97 (by decide) ?_
            obtain ⟨j17, ej18, hj19, hn20, hF⟩ := vG_some hF
            obtain ⟨σ21, e22, hF⟩ := vL_some hF
            refine is_Mowner B hP hD hS (by decide) hn20 ej18 e22 d_Mod_exit_98 (fun H locs hP hD hS => ?_)
            refine lv_aload_n hx hb d_Mod_exit_99 rfl (lv_at hl 0 rfl) ?_
            refine gf_Mod_count B hP (by decide) L_Mod_83 d_Mod_exit_100 ?_
            refine lv_iload_n hx hb d_Mod_exit_103 rfl (lv_at hl 3 rfl) ?_
            refine lv_iconst (v := 0) hx hb d_Mod_exit_104 (by decide) ?_
            obtain ⟨j23, ej24, hj25, hn26, hF⟩ := vG_some hF
            obtain ⟨σ27, e28, hF⟩ := vL_some hF
            refine is_Mcount B hP hD hS (by decide) hn26 ej24 e28 d_Mod_exit_105 (fun H locs hP hD hS => ?_)
            refine lv_aload_n hx hb d_Mod_exit_106 rfl (lv_at hl 0 rfl) ?_
            refine gf_Mod_abandoned B hP (by decide) L_Mod_74 d_Mod_exit_107 ?_
            refine lv_iload_n hx hb d_Mod_exit_110 rfl (lv_at hl 3 rfl) ?_
            refine lv_iconst (v := 1) hx hb d_Mod_exit_111 (by decide) ?_
            obtain ⟨j29, ej30, hj31, hn32, hF⟩ := vG_some hF
            obtain ⟨σ33, e34, hF⟩ := vL_some hF
            refine is_Mabandoned B hP hD hS (by decide) hn32 ej30 (by decide) e34 d_Mod_exit_112 (fun H locs hP hD hS => ?_)
            refine lv_aload_n hx hb d_Mod_exit_113 rfl (lv_at hl 0 rfl) ?_
            obtain ⟨σ35, q36, hF⟩ := vB1_some hF
            refine ed_cvV (As := []) (rest := []) B hP hD hS hA (C_Mod_release l D ad ca  σ33 σ35  q36) me_Mod_release mv_Mod_release L_Mod_214 (ed_rc_Mod B hP (by decide)) ⟨rfl, rfl⟩ ⟨Nat.le_of_ble_eq_true rfl, Nat.le_of_ble_eq_true rfl⟩ rfl rfl hl.1 (lv_room (Nat.le_of_ble_eq_true rfl)) d_Mod_exit_114 (fun H locs hP hD hS => ?_)
            refine lv_iinc (v := (x3 + 1)) (lv' := [(3, .int (x3 + 1)), (0, .ref (ad (pMod 0))), (1, .int x1), (2, .int x2)]) hx hb d_Mod_exit_117 hl (k := 3) rfl rfl (by decide) rfl (fun ls hl => ?_)
            refine lv_goto (tgt := 54) hx hb d_Mod_exit_120 (by decide) ?_
            exact kk54 x1 x2 (x3 + 1) σ35  hF _ _ _ hP hD hS (lv_sub hl [1, 2, 3, 0] rfl)
          · have hF := vIf c16 hF
            refine lv_goto (tgt := 117) hx hb d_Mod_exit_89 (by decide) ?_
            refine lv_iinc (v := (x3 + 1)) (lv' := [(3, .int (x3 + 1)), (0, .ref (ad (pMod 0))), (1, .int x1), (2, .int x2)]) hx hb d_Mod_exit_117 hl (k := 3) rfl rfl (by decide) rfl (fun ls hl => ?_)
            refine lv_goto (tgt := 54) hx hb d_Mod_exit_120 (by decide) ?_
            exact kk54 x1 x2 (x3 + 1) σ  hF _ _ _ hP hD hS (lv_sub hl [1, 2, 3, 0] rfl)
set_option maxHeartbeats 4000000 in
set_option maxRecDepth 100000 in
theorem T_Mod_exit {r : Int32} {σ' : ed_S} (B : ed_B p s m args meth c prog_10_method_43_code "ExecutiveDeskModel" 4 D ca) (hr : meth.sig.returnType = (some .int)) (hA : ∀ q : Nat, s.heap.size ≤ q → A q) : ∀ (σ : ed_S), F_Mod_exit   σ = some (r, σ') → ed_G p l e rm_Mod_exit s m args below meth c D ca (md_w ad ca) A (ed_QI D ca (md_w ad ca) A below args s r σ') 4 0 [(0, .ref (ad (pMod 0)))] [] σ := by
  have hx := B.1
  have hb := B.2.1
  intro  σ  hF H locs ls hP hD hS hl
  have hF : (if 0 ≤ (σ 44 0 0) then (if (σ 47 0 0) = 1 then (some ((-4), σ)) else (vG (σ 44 0 0) 8 fun j3 => (vG (σ 44 0 0) 8 fun j7 => vL (ed_st σ 7 0 j7 3) fun σ11 => (vL (ed_st σ11 44 0 0 (-1)) fun σ13 => (vG (σ 44 0 0) 8 fun j15 => vL (ed_st σ13 9 0 j15 0) fun σ19 => (F_Mod_exit_54  ed_fu (σ 44 0 0) (σ 5 0 j3) 0 σ19)))))) else (some ((-3), σ))) = some (r, σ') := hF
  refine lv_aload_n hx hb d_Mod_exit_0 rfl (lv_at hl 0 rfl) ?_
  refine gf_Mod_running B hP (by decide) L_Mod_137 d_Mod_exit_1 ?_
  refine lv_if_ge (tgt := 10) hx hb d_Mod_exit_4 (by decide) (fun c1 => ?_) (fun c1 => ?_)
  · have hF := vIt c1 hF
    refine lv_aload_n hx hb d_Mod_exit_10 rfl (lv_at hl 0 rfl) ?_
    refine gf_Mod_level B hP (by decide) L_Mod_177 d_Mod_exit_11 ?_
    refine lv_iconst (v := 1) hx hb d_Mod_exit_14 (by decide) ?_
    refine lv_icmp_ne (tgt := 21) hx hb d_Mod_exit_15 (by decide) (fun c2 => ?_) (fun c2 => ?_)
    · have hF := vIf c2 hF
      refine lv_aload_n hx hb d_Mod_exit_21 rfl (lv_at hl 0 rfl) ?_
      refine gf_Mod_running B hP (by decide) L_Mod_137 d_Mod_exit_22 ?_
      refine lv_istore_n (lv' := [(1, .int (σ 44 0 0)), (0, .ref (ad (pMod 0)))]) hx hb d_Mod_exit_25 rfl hl (by decide) rfl (fun ls hl => ?_)
      refine lv_aload_n hx hb d_Mod_exit_26 rfl (lv_at hl 1 rfl) ?_
      refine gf_Mod_home B hP (by decide) L_Mod_25 d_Mod_exit_27 ?_
      refine lv_iload_n hx hb d_Mod_exit_30 rfl (lv_at hl 0 rfl) ?_
      obtain ⟨j3, ej4, hj5, hn6, hF⟩ := vG_some hF
      refine il_Mhome B hP (by decide) hn6 ej4 d_Mod_exit_31 ?_
      refine lv_istore_n (lv' := [(2, .int (σ 5 0 j3)), (1, .int (σ 44 0 0)), (0, .ref (ad (pMod 0)))]) hx hb d_Mod_exit_32 rfl hl (by decide) rfl (fun ls hl => ?_)
      refine lv_aload_n hx hb d_Mod_exit_33 rfl (lv_at hl 2 rfl) ?_
      refine gf_Mod_state B hP (by decide) L_Mod_31 d_Mod_exit_34 ?_
      refine lv_iload_n hx hb d_Mod_exit_37 rfl (lv_at hl 1 rfl) ?_
      refine lv_iconst (v := 3) hx hb d_Mod_exit_38 (by decide) ?_
      obtain ⟨j7, ej8, hj9, hn10, hF⟩ := vG_some hF
      obtain ⟨σ11, e12, hF⟩ := vL_some hF
      refine is_Mstate B hP hD hS (by decide) hn10 ej8 e12 d_Mod_exit_39 (fun H locs hP hD hS => ?_)
      refine lv_aload_n hx hb d_Mod_exit_40 rfl (lv_at hl 2 rfl) ?_
      refine lv_iconst (v := (-1)) hx hb d_Mod_exit_41 (by decide) ?_
      obtain ⟨σ13, e14, hF⟩ := vL_some hF
      refine pf_Mod_running B hP hD hS (by decide) e14 L_Mod_137 d_Mod_exit_42 (fun H locs hP hD hS => ?_)
      refine lv_aload_n hx hb d_Mod_exit_45 rfl (lv_at hl 2 rfl) ?_
      refine gf_Mod_calls B hP (by decide) L_Mod_37 d_Mod_exit_46 ?_
      refine lv_iload_n hx hb d_Mod_exit_49 rfl (lv_at hl 1 rfl) ?_
      refine lv_iconst (v := 0) hx hb d_Mod_exit_50 (by decide) ?_
      obtain ⟨j15, ej16, hj17, hn18, hF⟩ := vG_some hF
      obtain ⟨σ19, e20, hF⟩ := vL_some hF
      refine is_Mcalls B hP hD hS (by decide) hn18 ej16 e20 d_Mod_exit_51 (fun H locs hP hD hS => ?_)
      refine lv_iconst (v := 0) hx hb d_Mod_exit_52 (by decide) ?_
      refine lv_istore_n (lv' := [(3, .int 0), (2, .int (σ 5 0 j3)), (1, .int (σ 44 0 0)), (0, .ref (ad (pMod 0)))]) hx hb d_Mod_exit_53 rfl hl (by decide) rfl (fun ls hl => ?_)
      exact T_Mod_exit_54 B hr hA  ed_fu (σ 44 0 0) (σ 5 0 j3) 0 σ19  hF _ _ _ hP hD hS (lv_sub hl [3, 2, 1, 0] rfl)
    · have hF := vIt c2 hF
      refine lv_bipush (v := (-4)) hx hb d_Mod_exit_18 (by decide) ?_
      exact ed_rI B hr hA hP hD hS (vP hF) d_Mod_exit_20
  · have hF := vIf c1 hF
    refine lv_bipush (v := (-3)) hx hb d_Mod_exit_7 (by decide) ?_
    exact ed_rI B hr hA hP hD hS (vP hF) d_Mod_exit_9
set_option maxHeartbeats 4000000 in
set_option maxRecDepth 100000 in
theorem C_Mod_exit (l : Launch) (D : va_G) (ad : Nat → Nat) (ca : Nat → ClassId) (σ : ed_S) (r : Int32) (σ' : ed_S) (hF : F_Mod_exit  σ = some (r, σ')) : ed_MI l y_Mod_exit ws_Mod_exit rm_Mod_exit D ca (md_w ad ca) [.ref (ad (pMod 0))] σ r σ' := by
  refine ed_metI (cc := prog_10_method_43_code) (own := "ExecutiveDeskModel") (nL := 4) (ret := (some .int)) (by decide) rfl rfl (Nat.le_of_ble_eq_true rfl) ?_
  intro p e s m args below meth c A B hr hA
  exact T_Mod_exit B hr hA  σ  hF
abbrev ws_Mod_once : List Cond := Cond.code y_Mod_once prog_10_method_45_code 3 none :: ed_tb
abbrev rm_Mod_once : Room := { frames := 4, cells := 0, slots := 0, locals := 93 }
def F_Mod_once_78 : Nat → Int32 → Int32 → ed_S → Option ed_S
  | 0, _, _, _ => none
  | n + 1, x1, x2, σ => (if (σ 43 0 0) ≤ x2 then (vB1 (F_Mod_tidy  σ) fun σ2 => (vB1 (F_Mod_look  σ2) fun σ4 => (if (σ4 47 0 0) = 1 then (some σ4) else (if x1 < 0 then (some σ4) else (if (σ4 44 0 0) = x1 then (vG x1 8 fun j9 => (vG x1 8 fun j13 => vL (ed_st σ4 12 0 j13 ((σ4 12 0 j9) + 1)) fun σ17 => (vG x1 8 fun j19 => (if 3 ≤ (σ17 12 0 j19) then (vG x1 8 fun j24 => vL (ed_st σ17 12 0 j24 0) fun σ28 => (vB2 (F_Mod_next  σ28) fun r32 σ30 => (if r32 < 0 then (some σ30) else (vG r32 8 fun j34 => (vG x1 8 fun j38 => (if (σ30 6 0 j34) = (σ30 6 0 j38) then (vB1 (F_Mod_ready x1 σ30) fun σ43 => (vB1 (F_Mod_run r32 σ43) fun σ45 => (some σ45))) else (some σ30))))))) else (some σ17))))) else (some σ4)))))) else (vG x2 8 fun j47 => (if (σ 7 0 j47) = 2 then (vG x2 8 fun j52 => (if (σ 13 0 j52) = (σ 46 0 0) then (vB1 (F_Mod_go x2 (-11) σ) fun σ57 => ((F_Mod_once_78  n) x1 (x2 + 1) σ57)) else ((F_Mod_once_78  n) x1 (x2 + 1) σ))) else ((F_Mod_once_78  n) x1 (x2 + 1) σ))))
def F_Mod_once_17 : Nat → Int32 → Int32 → ed_S → Option ed_S
  | 0, _, _, _ => none
  | n + 1, x1, x2, σ => (if 16 ≤ x2 then (F_Mod_once_78  ed_fu x1 0 σ) else (vG x2 16 fun j2 => (if (σ 19 0 j2) = 0 then ((F_Mod_once_17  n) x1 (x2 + 1) σ) else (vG x2 16 fun j7 => (if (σ 22 0 j7) = 4 then (vG x2 16 fun j12 => (if (σ 26 0 j12) = (σ 46 0 0) then (vG x2 16 fun j17 => vL (ed_st σ 26 0 j17 0) fun σ21 => (vB1 (F_Mod_signal x2 σ21) fun σ23 => ((F_Mod_once_17  n) x1 (x2 + 1) σ23))) else ((F_Mod_once_17  n) x1 (x2 + 1) σ))) else ((F_Mod_once_17  n) x1 (x2 + 1) σ))))))
def F_Mod_once (σ : ed_S) : Option ed_S := (vL (ed_st σ 46 0 0 ((σ 46 0 0) + 1)) fun σ1 => (F_Mod_once_17  ed_fu (σ 44 0 0) 0 σ1))
set_option maxHeartbeats 4000000 in
set_option maxRecDepth 100000 in
theorem T_Mod_once_78 {σ' : ed_S} (B : ed_B p s m args meth c prog_10_method_45_code "ExecutiveDeskModel" 3 D ca) (hr : meth.sig.returnType = none) (hA : ∀ q : Nat, s.heap.size ≤ q → A q) : ∀ (n : Nat) (x1 : Int32) (x2 : Int32) (σ : ed_S), F_Mod_once_78  n x1 x2 σ = some σ' → ed_G p l e rm_Mod_once s m args below meth c D ca (md_w ad ca) A (ed_QV D ca (md_w ad ca) A below args s σ') 3 78 [(0, .ref (ad (pMod 0))), (1, .int x1), (2, .int x2)] [] σ := by
  have hx := B.1
  have hb := B.2.1
  intro n
  induction n with
  | zero => intro x1 x2 σ  hF; exact absurd hF (by intro h; cases h)
  | succ n kk78 =>
    intro x1 x2 σ  hF H locs ls hP hD hS hl
    have hF : (if (σ 43 0 0) ≤ x2 then (vB1 (F_Mod_tidy  σ) fun σ2 => (vB1 (F_Mod_look  σ2) fun σ4 => (if (σ4 47 0 0) = 1 then (some σ4) else (if x1 < 0 then (some σ4) else (if (σ4 44 0 0) = x1 then (vG x1 8 fun j9 => (vG x1 8 fun j13 => vL (ed_st σ4 12 0 j13 ((σ4 12 0 j9) + 1)) fun σ17 => (vG x1 8 fun j19 => (if 3 ≤ (σ17 12 0 j19) then (vG x1 8 fun j24 => vL (ed_st σ17 12 0 j24 0) fun σ28 => (vB2 (F_Mod_next  σ28) fun r32 σ30 => (if r32 < 0 then (some σ30) else (vG r32 8 fun j34 => (vG x1 8 fun j38 => (if (σ30 6 0 j34) = (σ30 6 0 j38) then (vB1 (F_Mod_ready x1 σ30) fun σ43 => (vB1 (F_Mod_run r32 σ43) fun σ45 => (some σ45))) else (some σ30))))))) else (some σ17))))) else (some σ4)))))) else (vG x2 8 fun j47 => (if (σ 7 0 j47) = 2 then (vG x2 8 fun j52 => (if (σ 13 0 j52) = (σ 46 0 0) then (vB1 (F_Mod_go x2 (-11) σ) fun σ57 => ((F_Mod_once_78  n) x1 (x2 + 1) σ57)) else ((F_Mod_once_78  n) x1 (x2 + 1) σ))) else ((F_Mod_once_78  n) x1 (x2 + 1) σ)))) = some σ' := hF
    refine lv_iload_n hx hb d_Mod_once_78 rfl (lv_at hl 2 rfl) ?_
    refine lv_aload_n hx hb d_Mod_once_79 rfl (lv_at hl 0 rfl) ?_
    refine gf_Mod_threads B hP (by decide) L_Mod_144 d_Mod_once_80 ?_
    refine lv_icmp_ge (tgt := 122) hx hb d_Mod_once_83 (by decide) (fun c1 => ?_) (fun c1 => ?_)
    · have hF := vIt c1 hF
      refine lv_aload_n hx hb d_Mod_once_122 rfl (lv_at hl 0 rfl) ?_
      obtain ⟨σ2, q3, hF⟩ := vB1_some hF
      refine ed_cvV (As := []) (rest := []) B hP hD hS hA (C_Mod_tidy l D ad ca  σ σ2  q3) me_Mod_tidy mv_Mod_tidy L_Mod_190 (ed_rc_Mod B hP (by decide)) ⟨rfl, rfl⟩ ⟨Nat.le_of_ble_eq_true rfl, Nat.le_of_ble_eq_true rfl⟩ rfl rfl hl.1 (lv_room (Nat.le_of_ble_eq_true rfl)) d_Mod_once_123 (fun H locs hP hD hS => ?_)
      refine lv_aload_n hx hb d_Mod_once_126 rfl (lv_at hl 0 rfl) ?_
      obtain ⟨σ4, q5, hF⟩ := vB1_some hF
      refine ed_cvV (As := []) (rest := []) B hP hD hS hA (C_Mod_look l D ad ca  σ2 σ4  q5) me_Mod_look mv_Mod_look L_Mod_193 (ed_rc_Mod B hP (by decide)) ⟨rfl, rfl⟩ ⟨Nat.le_of_ble_eq_true rfl, Nat.le_of_ble_eq_true rfl⟩ rfl rfl hl.1 (lv_room (Nat.le_of_ble_eq_true rfl)) d_Mod_once_127 (fun H locs hP hD hS => ?_)
      refine lv_aload_n hx hb d_Mod_once_130 rfl (lv_at hl 0 rfl) ?_
      refine gf_Mod_level B hP (by decide) L_Mod_177 d_Mod_once_131 ?_
      refine lv_iconst (v := 1) hx hb d_Mod_once_134 (by decide) ?_
      refine lv_icmp_eq (tgt := 150) hx hb d_Mod_once_135 (by decide) (fun c6 => ?_) (fun c6 => ?_)
      · have hF := vIt c6 hF
        exact ed_rV B hr hA hP hD hS (Option.some.inj hF) d_Mod_once_150
      · have hF := vIf c6 hF
        refine lv_iload_n hx hb d_Mod_once_138 rfl (lv_at hl 1 rfl) ?_
        refine lv_if_lt (tgt := 150) hx hb d_Mod_once_139 (by decide) (fun c7 => ?_) (fun c7 => ?_)
        · have hF := vIt c7 hF
          exact ed_rV B hr hA hP hD hS (Option.some.inj hF) d_Mod_once_150
        · have hF := vIf c7 hF
          refine lv_aload_n hx hb d_Mod_once_142 rfl (lv_at hl 0 rfl) ?_
          refine gf_Mod_running B hP (by decide) L_Mod_137 d_Mod_once_143 ?_
          refine lv_iload_n hx hb d_Mod_once_146 rfl (lv_at hl 1 rfl) ?_
          refine lv_icmp_eq (tgt := 151) hx hb d_Mod_once_147 (by decide) (fun c8 => ?_) (fun c8 => ?_)
          · have hF := vIt c8 hF
            refine lv_aload_n hx hb d_Mod_once_151 rfl (lv_at hl 0 rfl) ?_
            refine gf_Mod_used B hP (by decide) L_Mod_46 d_Mod_once_152 ?_
            refine lv_iload_n hx hb d_Mod_once_155 rfl (lv_at hl 1 rfl) ?_
            refine lv_dup2_11 hx hb d_Mod_once_156 rfl rfl ?_
            obtain ⟨j9, ej10, hj11, hn12, hF⟩ := vG_some hF
            refine il_Mused B hP (by decide) hn12 ej10 d_Mod_once_157 ?_
            refine lv_iconst (v := 1) hx hb d_Mod_once_158 (by decide) ?_
            refine lv_iadd hx hb d_Mod_once_159 ?_
            obtain ⟨j13, ej14, hj15, hn16, hF⟩ := vG_some hF
            obtain ⟨σ17, e18, hF⟩ := vL_some hF
            refine is_Mused B hP hD hS (by decide) hn16 ej14 e18 d_Mod_once_160 (fun H locs hP hD hS => ?_)
            refine lv_aload_n hx hb d_Mod_once_161 rfl (lv_at hl 0 rfl) ?_
            refine gf_Mod_used B hP (by decide) L_Mod_46 d_Mod_once_162 ?_
            refine lv_iload_n hx hb d_Mod_once_165 rfl (lv_at hl 1 rfl) ?_
            obtain ⟨j19, ej20, hj21, hn22, hF⟩ := vG_some hF
            refine il_Mused B hP (by decide) hn22 ej20 d_Mod_once_166 ?_
            refine lv_iconst (v := 3) hx hb d_Mod_once_167 (by decide) ?_
            refine lv_icmp_ge (tgt := 172) hx hb d_Mod_once_168 (by decide) (fun c23 => ?_) (fun c23 => ?_)
            · have hF := vIt c23 hF
              refine lv_aload_n hx hb d_Mod_once_172 rfl (lv_at hl 0 rfl) ?_
              refine gf_Mod_used B hP (by decide) L_Mod_46 d_Mod_once_173 ?_
              refine lv_iload_n hx hb d_Mod_once_176 rfl (lv_at hl 1 rfl) ?_
              refine lv_iconst (v := 0) hx hb d_Mod_once_177 (by decide) ?_
              obtain ⟨j24, ej25, hj26, hn27, hF⟩ := vG_some hF
              obtain ⟨σ28, e29, hF⟩ := vL_some hF
              refine is_Mused B hP hD hS (by decide) hn27 ej25 e29 d_Mod_once_178 (fun H locs hP hD hS => ?_)
              refine lv_aload_n hx hb d_Mod_once_179 rfl (lv_at hl 0 rfl) ?_
              obtain ⟨r32, σ30, q31, hF⟩ := vB2_some hF
              refine ed_cvI (As := []) (rest := []) B hP hD hS hA (C_Mod_next l D ad ca  σ28 r32 σ30  q31) me_Mod_next mv_Mod_next L_Mod_180 (ed_rc_Mod B hP (by decide)) ⟨rfl, rfl⟩ ⟨Nat.le_of_ble_eq_true rfl, Nat.le_of_ble_eq_true rfl⟩ rfl rfl hl.1 (lv_room (Nat.le_of_ble_eq_true rfl)) d_Mod_once_180 (fun H locs hP hD hS => ?_)
              refine lv_istore_n (lv' := [(2, .int r32), (0, .ref (ad (pMod 0))), (1, .int x1)]) hx hb d_Mod_once_183 rfl hl (by decide) rfl (fun ls hl => ?_)
              refine lv_iload_n hx hb d_Mod_once_184 rfl (lv_at hl 0 rfl) ?_
              refine lv_if_lt (tgt := 203) hx hb d_Mod_once_185 (by decide) (fun c33 => ?_) (fun c33 => ?_)
              · have hF := vIt c33 hF
                exact ed_rV B hr hA hP hD hS (Option.some.inj hF) d_Mod_once_203
              · have hF := vIf c33 hF
                refine lv_aload_n hx hb d_Mod_once_188 rfl (lv_at hl 1 rfl) ?_
                refine gf_Mod_priority B hP (by decide) L_Mod_28 d_Mod_once_189 ?_
                refine lv_iload_n hx hb d_Mod_once_192 rfl (lv_at hl 0 rfl) ?_
                obtain ⟨j34, ej35, hj36, hn37, hF⟩ := vG_some hF
                refine il_Mpriority B hP (by decide) hn37 ej35 d_Mod_once_193 ?_
                refine lv_aload_n hx hb d_Mod_once_194 rfl (lv_at hl 1 rfl) ?_
                refine gf_Mod_priority B hP (by decide) L_Mod_28 d_Mod_once_195 ?_
                refine lv_iload_n hx hb d_Mod_once_198 rfl (lv_at hl 2 rfl) ?_
                obtain ⟨j38, ej39, hj40, hn41, hF⟩ := vG_some hF
                refine il_Mpriority B hP (by decide) hn41 ej39 d_Mod_once_199 ?_
                refine lv_icmp_eq (tgt := 204) hx hb d_Mod_once_200 (by decide) (fun c42 => ?_) (fun c42 => ?_)
                · have hF := vIt c42 hF
                  refine lv_aload_n hx hb d_Mod_once_204 rfl (lv_at hl 1 rfl) ?_
                  refine lv_iload_n hx hb d_Mod_once_205 rfl (lv_at hl 2 rfl) ?_
                  obtain ⟨σ43, q44, hF⟩ := vB1_some hF
                  refine ed_cvV (As := [.int x1]) (rest := []) B hP hD hS hA (C_Mod_ready l D ad ca x1 σ30 σ43  q44) me_Mod_ready mv_Mod_ready L_Mod_164 (ed_rc_Mod B hP (by decide)) ⟨rfl, rfl⟩ ⟨Nat.le_of_ble_eq_true rfl, Nat.le_of_ble_eq_true rfl⟩ rfl rfl hl.1 (lv_room (Nat.le_of_ble_eq_true rfl)) d_Mod_once_206 (fun H locs hP hD hS => ?_)
                  refine lv_aload_n hx hb d_Mod_once_209 rfl (lv_at hl 1 rfl) ?_
                  refine lv_iload_n hx hb d_Mod_once_210 rfl (lv_at hl 0 rfl) ?_
                  obtain ⟨σ45, q46, hF⟩ := vB1_some hF
                  refine ed_cvV (As := [.int r32]) (rest := []) B hP hD hS hA (C_Mod_run l D ad ca r32 σ43 σ45  q46) me_Mod_run mv_Mod_run L_Mod_187 (ed_rc_Mod B hP (by decide)) ⟨rfl, rfl⟩ ⟨Nat.le_of_ble_eq_true rfl, Nat.le_of_ble_eq_true rfl⟩ rfl rfl hl.1 (lv_room (Nat.le_of_ble_eq_true rfl)) d_Mod_once_211 (fun H locs hP hD hS => ?_)
                  exact ed_rV B hr hA hP hD hS (Option.some.inj hF) d_Mod_once_214
                · have hF := vIf c42 hF
                  exact ed_rV B hr hA hP hD hS (Option.some.inj hF) d_Mod_once_203
            · have hF := vIf c23 hF
              exact ed_rV B hr hA hP hD hS (Option.some.inj hF) d_Mod_once_171
          · have hF := vIf c8 hF
            exact ed_rV B hr hA hP hD hS (Option.some.inj hF) d_Mod_once_150
    · have hF := vIf c1 hF
      refine lv_aload_n hx hb d_Mod_once_86 rfl (lv_at hl 0 rfl) ?_
      refine gf_Mod_state B hP (by decide) L_Mod_31 d_Mod_once_87 ?_
      refine lv_iload_n hx hb d_Mod_once_90 rfl (lv_at hl 2 rfl) ?_
      obtain ⟨j47, ej48, hj49, hn50, hF⟩ := vG_some hF
      refine il_Mstate B hP (by decide) hn50 ej48 d_Mod_once_91 ?_
      refine lv_iconst (v := 2) hx hb d_Mod_once_92 (by decide) ?_
      refine lv_icmp_ne (tgt := 116) hx hb d_Mod_once_93 (by decide) (fun c51 => ?_) (fun c51 => ?_)
      · have hF := vIf c51 hF
        refine lv_iinc (v := (x2 + 1)) (lv' := [(2, .int (x2 + 1)), (0, .ref (ad (pMod 0))), (1, .int x1)]) hx hb d_Mod_once_116 hl (k := 2) rfl rfl (by decide) rfl (fun ls hl => ?_)
        refine lv_goto (tgt := 78) hx hb d_Mod_once_119 (by decide) ?_
        exact kk78 x1 (x2 + 1) σ  hF _ _ _ hP hD hS (lv_sub hl [1, 2, 0] rfl)
      · have hF := vIt c51 hF
        refine lv_aload_n hx hb d_Mod_once_96 rfl (lv_at hl 0 rfl) ?_
        refine gf_Mod_due B hP (by decide) L_Mod_49 d_Mod_once_97 ?_
        refine lv_iload_n hx hb d_Mod_once_100 rfl (lv_at hl 2 rfl) ?_
        obtain ⟨j52, ej53, hj54, hn55, hF⟩ := vG_some hF
        refine il_Mdue B hP (by decide) hn55 ej53 d_Mod_once_101 ?_
        refine lv_aload_n hx hb d_Mod_once_102 rfl (lv_at hl 0 rfl) ?_
        refine gf_Mod_clock B hP (by decide) L_Mod_230 d_Mod_once_103 ?_
        refine lv_icmp_ne (tgt := 116) hx hb d_Mod_once_106 (by decide) (fun c56 => ?_) (fun c56 => ?_)
        · have hF := vIf c56 hF
          refine lv_iinc (v := (x2 + 1)) (lv' := [(2, .int (x2 + 1)), (0, .ref (ad (pMod 0))), (1, .int x1)]) hx hb d_Mod_once_116 hl (k := 2) rfl rfl (by decide) rfl (fun ls hl => ?_)
          refine lv_goto (tgt := 78) hx hb d_Mod_once_119 (by decide) ?_
          exact kk78 x1 (x2 + 1) σ  hF _ _ _ hP hD hS (lv_sub hl [1, 2, 0] rfl)
        · have hF := vIt c56 hF
          refine lv_aload_n hx hb d_Mod_once_109 rfl (lv_at hl 0 rfl) ?_
          refine lv_iload_n hx hb d_Mod_once_110 rfl (lv_at hl 2 rfl) ?_
          refine lv_bipush (v := (-11)) hx hb d_Mod_once_111 (by decide) ?_
          obtain ⟨σ57, q58, hF⟩ := vB1_some hF
          refine ed_cvV (As := [.int x2, .int (-11)]) (rest := []) B hP hD hS hA (C_Mod_go l D ad ca x2 (-11) σ σ57  q58) me_Mod_go mv_Mod_go L_Mod_210 (ed_rc_Mod B hP (by decide)) ⟨rfl, rfl⟩ ⟨Nat.le_of_ble_eq_true rfl, Nat.le_of_ble_eq_true rfl⟩ rfl rfl hl.1 (lv_room (Nat.le_of_ble_eq_true rfl)) d_Mod_once_113 (fun H locs hP hD hS => ?_)
          refine lv_iinc (v := (x2 + 1)) (lv' := [(2, .int (x2 + 1)), (0, .ref (ad (pMod 0))), (1, .int x1)]) hx hb d_Mod_once_116 hl (k := 2) rfl rfl (by decide) rfl (fun ls hl => ?_)
          refine lv_goto (tgt := 78) hx hb d_Mod_once_119 (by decide) ?_
          exact kk78 x1 (x2 + 1) σ57  hF _ _ _ hP hD hS (lv_sub hl [1, 2, 0] rfl)
set_option maxHeartbeats 4000000 in
set_option maxRecDepth 100000 in
theorem T_Mod_once_17 {σ' : ed_S} (B : ed_B p s m args meth c prog_10_method_45_code "ExecutiveDeskModel" 3 D ca) (hr : meth.sig.returnType = none) (hA : ∀ q : Nat, s.heap.size ≤ q → A q) : ∀ (n : Nat) (x1 : Int32) (x2 : Int32) (σ : ed_S), F_Mod_once_17  n x1 x2 σ = some σ' → ed_G p l e rm_Mod_once s m args below meth c D ca (md_w ad ca) A (ed_QV D ca (md_w ad ca) A below args s σ') 3 17 [(0, .ref (ad (pMod 0))), (1, .int x1), (2, .int x2)] [] σ := by
  have hx := B.1
  have hb := B.2.1
  intro n
  induction n with
  | zero => intro x1 x2 σ  hF; exact absurd hF (by intro h; cases h)
  | succ n kk17 =>
    intro x1 x2 σ  hF H locs ls hP hD hS hl
    have hF : (if 16 ≤ x2 then (F_Mod_once_78  ed_fu x1 0 σ) else (vG x2 16 fun j2 => (if (σ 19 0 j2) = 0 then ((F_Mod_once_17  n) x1 (x2 + 1) σ) else (vG x2 16 fun j7 => (if (σ 22 0 j7) = 4 then (vG x2 16 fun j12 => (if (σ 26 0 j12) = (σ 46 0 0) then (vG x2 16 fun j17 => vL (ed_st σ 26 0 j17 0) fun σ21 => (vB1 (F_Mod_signal x2 σ21) fun σ23 => ((F_Mod_once_17  n) x1 (x2 + 1) σ23))) else ((F_Mod_once_17  n) x1 (x2 + 1) σ))) else ((F_Mod_once_17  n) x1 (x2 + 1) σ)))))) = some σ' := hF
    refine lv_iload_n hx hb d_Mod_once_17 rfl (lv_at hl 2 rfl) ?_
    refine lv_bipush (v := 16) hx hb d_Mod_once_18 (by decide) ?_
    refine lv_icmp_ge (tgt := 76) hx hb d_Mod_once_20 (by decide) (fun c1 => ?_) (fun c1 => ?_)
    · have hF := vIt c1 hF
      refine lv_iconst (v := 0) hx hb d_Mod_once_76 (by decide) ?_
      refine lv_istore_n (lv' := [(2, .int 0), (0, .ref (ad (pMod 0))), (1, .int x1)]) hx hb d_Mod_once_77 rfl hl (by decide) rfl (fun ls hl => ?_)
      exact T_Mod_once_78 B hr hA  ed_fu x1 0 σ  hF _ _ _ hP hD hS (lv_sub hl [1, 2, 0] rfl)
    · have hF := vIf c1 hF
      refine lv_aload_n hx hb d_Mod_once_23 rfl (lv_at hl 0 rfl) ?_
      refine gf_Mod_there B hP (by decide) L_Mod_67 d_Mod_once_24 ?_
      refine lv_iload_n hx hb d_Mod_once_27 rfl (lv_at hl 2 rfl) ?_
      obtain ⟨j2, ej3, hj4, hn5, hF⟩ := vG_some hF
      refine il_Mthere B hP (by decide) hn5 ej3 d_Mod_once_28 ?_
      refine lv_if_eq (tgt := 70) hx hb d_Mod_once_29 (by decide) (fun c6 => ?_) (fun c6 => ?_)
      · have hF := vIt c6 hF
        refine lv_iinc (v := (x2 + 1)) (lv' := [(2, .int (x2 + 1)), (0, .ref (ad (pMod 0))), (1, .int x1)]) hx hb d_Mod_once_70 hl (k := 2) rfl rfl (by decide) rfl (fun ls hl => ?_)
        refine lv_goto (tgt := 17) hx hb d_Mod_once_73 (by decide) ?_
        exact kk17 x1 (x2 + 1) σ  hF _ _ _ hP hD hS (lv_sub hl [1, 2, 0] rfl)
      · have hF := vIf c6 hF
        refine lv_aload_n hx hb d_Mod_once_32 rfl (lv_at hl 0 rfl) ?_
        refine gf_Mod_type B hP (by decide) L_Mod_77 d_Mod_once_33 ?_
        refine lv_iload_n hx hb d_Mod_once_36 rfl (lv_at hl 2 rfl) ?_
        obtain ⟨j7, ej8, hj9, hn10, hF⟩ := vG_some hF
        refine il_Mtype B hP (by decide) hn10 ej8 d_Mod_once_37 ?_
        refine lv_iconst (v := 4) hx hb d_Mod_once_38 (by decide) ?_
        refine lv_icmp_ne (tgt := 70) hx hb d_Mod_once_39 (by decide) (fun c11 => ?_) (fun c11 => ?_)
        · have hF := vIf c11 hF
          refine lv_iinc (v := (x2 + 1)) (lv' := [(2, .int (x2 + 1)), (0, .ref (ad (pMod 0))), (1, .int x1)]) hx hb d_Mod_once_70 hl (k := 2) rfl rfl (by decide) rfl (fun ls hl => ?_)
          refine lv_goto (tgt := 17) hx hb d_Mod_once_73 (by decide) ?_
          exact kk17 x1 (x2 + 1) σ  hF _ _ _ hP hD hS (lv_sub hl [1, 2, 0] rfl)
        · have hF := vIt c11 hF
          refine lv_aload_n hx hb d_Mod_once_42 rfl (lv_at hl 0 rfl) ?_
          refine gf_Mod_time B hP (by decide) L_Mod_89 d_Mod_once_43 ?_
          refine lv_iload_n hx hb d_Mod_once_46 rfl (lv_at hl 2 rfl) ?_
          obtain ⟨j12, ej13, hj14, hn15, hF⟩ := vG_some hF
          refine il_Mtime B hP (by decide) hn15 ej13 d_Mod_once_47 ?_
          refine lv_aload_n hx hb d_Mod_once_48 rfl (lv_at hl 0 rfl) ?_
          refine gf_Mod_clock B hP (by decide) L_Mod_230 d_Mod_once_49 ?_
          refine lv_icmp_eq (tgt := 58) hx hb d_Mod_once_52 (by decide) (fun c16 => ?_) (fun c16 => ?_)
          · have hF := vIt c16 hF
            refine lv_aload_n hx hb d_Mod_once_58 rfl (lv_at hl 0 rfl) ?_
            refine gf_Mod_time B hP (by decide) L_Mod_89 d_Mod_once_59 ?_
            refine lv_iload_n hx hb d_Mod_once_62 rfl (lv_at hl 2 rfl) ?_
            refine lv_iconst (v := 0) hx hb d_Mod_once_63 (by decide) ?_
            obtain ⟨j17, ej18, hj19, hn20, hF⟩ := vG_some hF
            obtain ⟨σ21, e22, hF⟩ := vL_some hF
            refine is_Mtime B hP hD hS (by decide) hn20 ej18 e22 d_Mod_once_64 (fun H locs hP hD hS => ?_)
            refine lv_aload_n hx hb d_Mod_once_65 rfl (lv_at hl 0 rfl) ?_
            refine lv_iload_n hx hb d_Mod_once_66 rfl (lv_at hl 2 rfl) ?_
            obtain ⟨σ23, q24, hF⟩ := vB1_some hF
            refine ed_cvV (As := [.int x2]) (rest := []) B hP hD hS hA (C_Mod_signal l D ad ca x2 σ21 σ23  q24) me_Mod_signal mv_Mod_signal L_Mod_253 (ed_rc_Mod B hP (by decide)) ⟨rfl, rfl⟩ ⟨Nat.le_of_ble_eq_true rfl, Nat.le_of_ble_eq_true rfl⟩ rfl rfl hl.1 (lv_room (Nat.le_of_ble_eq_true rfl)) d_Mod_once_67 (fun H locs hP hD hS => ?_)
            refine lv_iinc (v := (x2 + 1)) (lv' := [(2, .int (x2 + 1)), (0, .ref (ad (pMod 0))), (1, .int x1)]) hx hb d_Mod_once_70 hl (k := 2) rfl rfl (by decide) rfl (fun ls hl => ?_)
            refine lv_goto (tgt := 17) hx hb d_Mod_once_73 (by decide) ?_
            exact kk17 x1 (x2 + 1) σ23  hF _ _ _ hP hD hS (lv_sub hl [1, 2, 0] rfl)
          · have hF := vIf c16 hF
            refine lv_goto (tgt := 70) hx hb d_Mod_once_55 (by decide) ?_
            refine lv_iinc (v := (x2 + 1)) (lv' := [(2, .int (x2 + 1)), (0, .ref (ad (pMod 0))), (1, .int x1)]) hx hb d_Mod_once_70 hl (k := 2) rfl rfl (by decide) rfl (fun ls hl => ?_)
            refine lv_goto (tgt := 17) hx hb d_Mod_once_73 (by decide) ?_
            exact kk17 x1 (x2 + 1) σ  hF _ _ _ hP hD hS (lv_sub hl [1, 2, 0] rfl)
set_option maxHeartbeats 4000000 in
set_option maxRecDepth 100000 in
theorem T_Mod_once {σ' : ed_S} (B : ed_B p s m args meth c prog_10_method_45_code "ExecutiveDeskModel" 3 D ca) (hr : meth.sig.returnType = none) (hA : ∀ q : Nat, s.heap.size ≤ q → A q) : ∀ (σ : ed_S), F_Mod_once   σ = some σ' → ed_G p l e rm_Mod_once s m args below meth c D ca (md_w ad ca) A (ed_QV D ca (md_w ad ca) A below args s σ') 3 0 [(0, .ref (ad (pMod 0)))] [] σ := by
  have hx := B.1
  have hb := B.2.1
  intro  σ  hF H locs ls hP hD hS hl
  have hF : (vL (ed_st σ 46 0 0 ((σ 46 0 0) + 1)) fun σ1 => (F_Mod_once_17  ed_fu (σ 44 0 0) 0 σ1)) = some σ' := hF
  refine lv_aload_n hx hb d_Mod_once_0 rfl (lv_at hl 0 rfl) ?_
  refine gf_Mod_running B hP (by decide) L_Mod_137 d_Mod_once_1 ?_
  refine lv_istore_n (lv' := [(1, .int (σ 44 0 0)), (0, .ref (ad (pMod 0)))]) hx hb d_Mod_once_4 rfl hl (by decide) rfl (fun ls hl => ?_)
  refine lv_aload_n hx hb d_Mod_once_5 rfl (lv_at hl 1 rfl) ?_
  refine lv_dup hx hb d_Mod_once_6 rfl ?_
  refine gf_Mod_clock B hP (by decide) L_Mod_230 d_Mod_once_7 ?_
  refine lv_iconst (v := 1) hx hb d_Mod_once_10 (by decide) ?_
  refine lv_iadd hx hb d_Mod_once_11 ?_
  obtain ⟨σ1, e2, hF⟩ := vL_some hF
  refine pf_Mod_clock B hP hD hS (by decide) e2 L_Mod_230 d_Mod_once_12 (fun H locs hP hD hS => ?_)
  refine lv_iconst (v := 0) hx hb d_Mod_once_15 (by decide) ?_
  refine lv_istore_n (lv' := [(2, .int 0), (1, .int (σ 44 0 0)), (0, .ref (ad (pMod 0)))]) hx hb d_Mod_once_16 rfl hl (by decide) rfl (fun ls hl => ?_)
  exact T_Mod_once_17 B hr hA  ed_fu (σ 44 0 0) 0 σ1  hF _ _ _ hP hD hS (lv_sub hl [2, 1, 0] rfl)
set_option maxHeartbeats 4000000 in
set_option maxRecDepth 100000 in
theorem C_Mod_once (l : Launch) (D : va_G) (ad : Nat → Nat) (ca : Nat → ClassId) (σ : ed_S) (σ' : ed_S) (hF : F_Mod_once  σ = some σ') : ed_MV l y_Mod_once ws_Mod_once rm_Mod_once D ca (md_w ad ca) [.ref (ad (pMod 0))] σ σ' := by
  refine ed_metV (cc := prog_10_method_45_code) (own := "ExecutiveDeskModel") (nL := 3) (ret := none) (by decide) rfl rfl (Nat.le_of_ble_eq_true rfl) ?_
  intro p e s m args below meth c A B hr hA
  exact T_Mod_once B hr hA  σ  hF
abbrev ws_Mod_tick : List Cond := Cond.code y_Mod_tick prog_10_method_44_code 3 (some .int) :: ed_tb
abbrev rm_Mod_tick : Room := { frames := 5, cells := 0, slots := 0, locals := 115 }
def F_Mod_tick_14 : Nat → Int32 → Int32 → ed_S → Option (Int32 × ed_S)
  | 0, _, _, _ => none
  | n + 1, x1, x2, σ => (if x1 ≤ x2 then (some ((σ 46 0 0), σ)) else (vB1 (F_Mod_once  σ) fun σ2 => ((F_Mod_tick_14  n) x1 (x2 + 1) σ2)))
def F_Mod_tick (x1 : Int32) (σ : ed_S) : Option (Int32 × ed_S) := (vB2 (F_Mod_is x1 1 9 σ) fun r3 σ1 => (if r3 = 0 then (some ((-1), σ1)) else (F_Mod_tick_14  ed_fu x1 0 σ1)))
set_option maxHeartbeats 4000000 in
set_option maxRecDepth 100000 in
theorem T_Mod_tick_14 {r : Int32} {σ' : ed_S} (B : ed_B p s m args meth c prog_10_method_44_code "ExecutiveDeskModel" 3 D ca) (hr : meth.sig.returnType = (some .int)) (hA : ∀ q : Nat, s.heap.size ≤ q → A q) : ∀ (n : Nat) (x1 : Int32) (x2 : Int32) (σ : ed_S), F_Mod_tick_14  n x1 x2 σ = some (r, σ') → ed_G p l e rm_Mod_tick s m args below meth c D ca (md_w ad ca) A (ed_QI D ca (md_w ad ca) A below args s r σ') 3 14 [(0, .ref (ad (pMod 0))), (1, .int x1), (2, .int x2)] [] σ := by
  have hx := B.1
  have hb := B.2.1
  intro n
  induction n with
  | zero => intro x1 x2 σ  hF; exact absurd hF (by intro h; cases h)
  | succ n kk14 =>
    intro x1 x2 σ  hF H locs ls hP hD hS hl
    have hF : (if x1 ≤ x2 then (some ((σ 46 0 0), σ)) else (vB1 (F_Mod_once  σ) fun σ2 => ((F_Mod_tick_14  n) x1 (x2 + 1) σ2))) = some (r, σ') := hF
    refine lv_iload_n hx hb d_Mod_tick_14 rfl (lv_at hl 2 rfl) ?_
    refine lv_iload_n hx hb d_Mod_tick_15 rfl (lv_at hl 1 rfl) ?_
    refine lv_icmp_ge (tgt := 29) hx hb d_Mod_tick_16 (by decide) (fun c1 => ?_) (fun c1 => ?_)
    · have hF := vIt c1 hF
      refine lv_aload_n hx hb d_Mod_tick_29 rfl (lv_at hl 0 rfl) ?_
      refine gf_Mod_clock B hP (by decide) L_Mod_230 d_Mod_tick_30 ?_
      exact ed_rI B hr hA hP hD hS (vP hF) d_Mod_tick_33
    · have hF := vIf c1 hF
      refine lv_aload_n hx hb d_Mod_tick_19 rfl (lv_at hl 0 rfl) ?_
      obtain ⟨σ2, q3, hF⟩ := vB1_some hF
      refine ed_cvV (As := []) (rest := []) B hP hD hS hA (C_Mod_once l D ad ca  σ σ2  q3) me_Mod_once mv_Mod_once L_Mod_266 (ed_rc_Mod B hP (by decide)) ⟨rfl, rfl⟩ ⟨Nat.le_of_ble_eq_true rfl, Nat.le_of_ble_eq_true rfl⟩ rfl rfl hl.1 (lv_room (Nat.le_of_ble_eq_true rfl)) d_Mod_tick_20 (fun H locs hP hD hS => ?_)
      refine lv_iinc (v := (x2 + 1)) (lv' := [(2, .int (x2 + 1)), (0, .ref (ad (pMod 0))), (1, .int x1)]) hx hb d_Mod_tick_23 hl (k := 2) rfl rfl (by decide) rfl (fun ls hl => ?_)
      refine lv_goto (tgt := 14) hx hb d_Mod_tick_26 (by decide) ?_
      exact kk14 x1 (x2 + 1) σ2  hF _ _ _ hP hD hS (lv_sub hl [1, 2, 0] rfl)
set_option maxHeartbeats 4000000 in
set_option maxRecDepth 100000 in
theorem T_Mod_tick {r : Int32} {σ' : ed_S} (B : ed_B p s m args meth c prog_10_method_44_code "ExecutiveDeskModel" 3 D ca) (hr : meth.sig.returnType = (some .int)) (hA : ∀ q : Nat, s.heap.size ≤ q → A q) : ∀ (x1 : Int32) (σ : ed_S), F_Mod_tick  x1 σ = some (r, σ') → ed_G p l e rm_Mod_tick s m args below meth c D ca (md_w ad ca) A (ed_QI D ca (md_w ad ca) A below args s r σ') 3 0 [(0, .ref (ad (pMod 0))), (1, .int x1)] [] σ := by
  have hx := B.1
  have hb := B.2.1
  intro x1 σ  hF H locs ls hP hD hS hl
  have hF : (vB2 (F_Mod_is x1 1 9 σ) fun r3 σ1 => (if r3 = 0 then (some ((-1), σ1)) else (F_Mod_tick_14  ed_fu x1 0 σ1))) = some (r, σ') := hF
  refine lv_iload_n hx hb d_Mod_tick_0 rfl (lv_at hl 1 rfl) ?_
  refine lv_iconst (v := 1) hx hb d_Mod_tick_1 (by decide) ?_
  refine lv_bipush (v := 9) hx hb d_Mod_tick_2 (by decide) ?_
  obtain ⟨r3, σ1, q2, hF⟩ := vB2_some hF
  refine ed_csI (As := [.int x1, .int 1, .int 9]) (rest := []) B hP hD hS hA (C_Mod_is l D ad ca x1 1 9 σ r3 σ1  q2) me_Mod_is st_Mod_is L_Mod_157 ⟨rfl, rfl⟩ ⟨Nat.le_of_ble_eq_true rfl, Nat.le_of_ble_eq_true rfl⟩ rfl rfl hl.1 (lv_room (Nat.le_of_ble_eq_true rfl)) d_Mod_tick_4 (fun H locs hP hD hS => ?_)
  refine lv_if_ne (tgt := 12) hx hb d_Mod_tick_7 (by decide) (fun c4 => ?_) (fun c4 => ?_)
  · have hF := vIf c4 hF
    refine lv_iconst (v := 0) hx hb d_Mod_tick_12 (by decide) ?_
    refine lv_istore_n (lv' := [(2, .int 0), (0, .ref (ad (pMod 0))), (1, .int x1)]) hx hb d_Mod_tick_13 rfl hl (by decide) rfl (fun ls hl => ?_)
    exact T_Mod_tick_14 B hr hA  ed_fu x1 0 σ1  hF _ _ _ hP hD hS (lv_sub hl [1, 2, 0] rfl)
  · have hF := vIt c4 hF
    refine lv_iconst (v := (-1)) hx hb d_Mod_tick_10 (by decide) ?_
    exact ed_rI B hr hA hP hD hS (vP hF) d_Mod_tick_11
set_option maxHeartbeats 4000000 in
set_option maxRecDepth 100000 in
theorem C_Mod_tick (l : Launch) (D : va_G) (ad : Nat → Nat) (ca : Nat → ClassId) (x1 : Int32) (σ : ed_S) (r : Int32) (σ' : ed_S) (hF : F_Mod_tick x1 σ = some (r, σ')) : ed_MI l y_Mod_tick ws_Mod_tick rm_Mod_tick D ca (md_w ad ca) [.ref (ad (pMod 0)), .int x1] σ r σ' := by
  refine ed_metI (cc := prog_10_method_44_code) (own := "ExecutiveDeskModel") (nL := 3) (ret := (some .int)) (by decide) rfl rfl (Nat.le_of_ble_eq_true rfl) ?_
  intro p e s m args below meth c A B hr hA
  exact T_Mod_tick B hr hA x1 σ  hF
end EDT
