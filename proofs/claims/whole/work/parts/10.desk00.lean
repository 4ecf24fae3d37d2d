section EDT
variable {p : Program} {l : Launch} {e : Env} {s : State} {m : MethodId} {args : Array Value} {below : List Frame} {meth : Method} {c : Code} {D : va_G} {ad : Nat → Nat} {ca : Nat → ClassId} {A : Nat → Prop}
abbrev ws_Desk_isWithin : List Cond := Cond.code y_Desk_isWithin prog_1_method_22_code 3 (some .boolean) :: ed_tb
abbrev rm_Desk_isWithin : Room := { frames := 0, cells := 0, slots := 0, locals := 0 }
def F_Desk_isWithin (x0 : Int32) (x1 : Int32) (x2 : Int32) (σ : ed_S) : Option (Int32 × ed_S) := (if x0 < x1 then (some (0, σ)) else (if x2 < x0 then (some (0, σ)) else (some (1, σ))))
set_option maxHeartbeats 4000000 in
set_option maxRecDepth 100000 in
theorem T_Desk_isWithin {r : Int32} {σ' : ed_S} (B : ed_B p s m args meth c prog_1_method_22_code "ExecutiveDesk" 3 D ca) (hr : meth.sig.returnType = (some .boolean)) (hA : ∀ q : Nat, s.heap.size ≤ q → A q) : ∀ (x0 : Int32) (x1 : Int32) (x2 : Int32) (σ : ed_S), F_Desk_isWithin  x0 x1 x2 σ = some (r, σ') → ed_G p l e rm_Desk_isWithin s m args below meth c D ca (ed_w ad ca) A (ed_QI D ca (ed_w ad ca) A below args s r σ') 3 0 [(0, .int x0), (1, .int x1), (2, .int x2)] [] σ := by
  have hx := B.1
  have hb := B.2.1
  intro x0 x1 x2 σ  hF H locs ls hP hD hS hl
  have hF : (if x0 < x1 then (some (0, σ)) else (if x2 < x0 then (some (0, σ)) else (some (1, σ)))) = some (r, σ') := hF
  refine lv_iload_n hx hb d_Desk_isWithin_0 rfl (lv_at hl 0 rfl) ?_
  refine lv_iload_n hx hb d_Desk_isWithin_1 rfl (lv_at hl 1 rfl) ?_
  refine lv_icmp_lt (tgt := 14) hx hb d_Desk_isWithin_2 (by decide) (fun c1 => ?_) (fun c1 => ?_)
  · have hF := vIt c1 hF
    refine lv_iconst (v := 0) hx hb d_Desk_isWithin_14 (by decide) ?_
    exact ed_rZ B hr hA hP hD hS (by decide) (vP hF) d_Desk_isWithin_15
  · have hF := vIf c1 hF
    refine lv_iload_n hx hb d_Desk_isWithin_5 rfl (lv_at hl 0 rfl) ?_
    refine lv_iload_n hx hb d_Desk_isWithin_6 rfl (lv_at hl 2 rfl) ?_
    refine lv_icmp_gt (tgt := 14) hx hb d_Desk_isWithin_7 (by decide) (fun c2 => ?_) (fun c2 => ?_)
    · have hF := vIt c2 hF
      refine lv_iconst (v := 0) hx hb d_Desk_isWithin_14 (by decide) ?_
      exact ed_rZ B hr hA hP hD hS (by decide) (vP hF) d_Desk_isWithin_15
    · have hF := vIf c2 hF
      refine lv_iconst (v := 1) hx hb d_Desk_isWithin_10 (by decide) ?_
      refine lv_goto (tgt := 15) hx hb d_Desk_isWithin_11 (by decide) ?_
      exact ed_rZ B hr hA hP hD hS (by decide) (vP hF) d_Desk_isWithin_15
set_option maxHeartbeats 4000000 in
set_option maxRecDepth 100000 in
theorem C_Desk_isWithin (l : Launch) (D : va_G) (ad : Nat → Nat) (ca : Nat → ClassId) (x0 : Int32) (x1 : Int32) (x2 : Int32) (σ : ed_S) (r : Int32) (σ' : ed_S) (hF : F_Desk_isWithin x0 x1 x2 σ = some (r, σ')) : ed_MI l y_Desk_isWithin ws_Desk_isWithin rm_Desk_isWithin D ca (ed_w ad ca) [.int x0, .int x1, .int x2] σ r σ' := by
  refine ed_metI (cc := prog_1_method_22_code) (own := "ExecutiveDesk") (nL := 3) (ret := (some .boolean)) (by decide) rfl rfl (Nat.le_of_ble_eq_true rfl) ?_
  intro p e s m args below meth c A B hr hA
  exact T_Desk_isWithin B hr hA x0 x1 x2 σ  hF
abbrev ws_Desk_process : List Cond := Cond.code y_Desk_process prog_1_method_2_code 2 (some .int) :: ed_tb
abbrev rm_Desk_process : Room := { frames := 1, cells := 0, slots := 0, locals := 22 }
def F_Desk_process (x1 : Int32) (σ : ed_S) : Option (Int32 × ed_S) := (vB2 (F_Desk_isWithin x1 0 255 σ) fun r3 σ1 => (if r3 = 0 then (some ((-1), σ1)) else (if (σ1 0 0 0) = 4 then (some ((-2), σ1)) else (vG (σ1 0 0 0) 4 fun j6 => (vL (ed_st σ1 19 j6 0 x1) fun σ10 => (vL (ed_st σ10 0 0 0 ((σ10 0 0 0) + 1)) fun σ12 => (some (((σ12 0 0 0) - 1), σ12))))))))
set_option maxHeartbeats 4000000 in
set_option maxRecDepth 100000 in
theorem T_Desk_process {r : Int32} {σ' : ed_S} (B : ed_B p s m args meth c prog_1_method_2_code "ExecutiveDesk" 2 D ca) (hr : meth.sig.returnType = (some .int)) (hA : ∀ q : Nat, s.heap.size ≤ q → A q) : ∀ (x1 : Int32) (σ : ed_S), F_Desk_process  x1 σ = some (r, σ') → ed_G p l e rm_Desk_process s m args below meth c D ca (ed_w ad ca) A (ed_QI D ca (ed_w ad ca) A below args s r σ') 2 0 [(0, .ref (ad (pDesk 0))), (1, .int x1)] [] σ := by
  have hx := B.1
  have hb := B.2.1
  intro x1 σ  hF H locs ls hP hD hS hl
  have hF : (vB2 (F_Desk_isWithin x1 0 255 σ) fun r3 σ1 => (if r3 = 0 then (some ((-1), σ1)) else (if (σ1 0 0 0) = 4 then (some ((-2), σ1)) else (vG (σ1 0 0 0) 4 fun j6 => (vL (ed_st σ1 19 j6 0 x1) fun σ10 => (vL (ed_st σ10 0 0 0 ((σ10 0 0 0) + 1)) fun σ12 => (some (((σ12 0 0 0) - 1), σ12)))))))) = some (r, σ') := hF
  refine lv_iload_n hx hb d_Desk_process_0 rfl (lv_at hl 1 rfl) ?_
  refine lv_iconst (v := 0) hx hb d_Desk_process_1 (by decide) ?_
  refine lv_sipush (v := 255) hx hb d_Desk_process_2 (by decide) ?_
  obtain ⟨r3, σ1, q2, hF⟩ := vB2_some hF
  refine ed_csI (As := [.int x1, .int 0, .int 255]) (rest := []) B hP hD hS hA (C_Desk_isWithin l D ad ca x1 0 255 σ r3 σ1  q2) me_Desk_isWithin st_Desk_isWithin L_Desk_54 ⟨rfl, rfl⟩ ⟨Nat.le_of_ble_eq_true rfl, Nat.le_of_ble_eq_true rfl⟩ rfl rfl hl.1 (lv_room (Nat.le_of_ble_eq_true rfl)) d_Desk_process_5 (fun H locs hP hD hS => ?_)
  refine lv_if_ne (tgt := 13) hx hb d_Desk_process_8 (by decide) (fun c4 => ?_) (fun c4 => ?_)
  · have hF := vIf c4 hF
    refine lv_aload_n hx hb d_Desk_process_13 rfl (lv_at hl 0 rfl) ?_
    refine gf_Desk_processCount B hP (by decide) L_Desk_58 d_Desk_process_14 ?_
    refine lv_iconst (v := 4) hx hb d_Desk_process_17 (by decide) ?_
    refine lv_icmp_ne (tgt := 24) hx hb d_Desk_process_18 (by decide) (fun c5 => ?_) (fun c5 => ?_)
    · have hF := vIf c5 hF
      refine lv_aload_n hx hb d_Desk_process_24 rfl (lv_at hl 0 rfl) ?_
      refine gf_Desk_processes B hP (by decide) L_Desk_11 d_Desk_process_25 ?_
      refine lv_aload_n hx hb d_Desk_process_28 rfl (lv_at hl 0 rfl) ?_
      refine gf_Desk_processCount B hP (by decide) L_Desk_58 d_Desk_process_29 ?_
      obtain ⟨j6, ej7, hj8, hn9, hF⟩ := vG_some hF
      refine al_AProc B hP (by decide) hn9 ej7 hj8 d_Desk_process_32 ?_
      refine lv_iload_n hx hb d_Desk_process_33 rfl (lv_at hl 1 rfl) ?_
      obtain ⟨σ10, e11, hF⟩ := vL_some hF
      refine pf_Proc_groups B hP hD hS hj8 e11 L_Desk_62 d_Desk_process_34 (fun H locs hP hD hS => ?_)
      refine lv_aload_n hx hb d_Desk_process_37 rfl (lv_at hl 0 rfl) ?_
      refine lv_dup hx hb d_Desk_process_38 rfl ?_
      refine gf_Desk_processCount B hP (by decide) L_Desk_58 d_Desk_process_39 ?_
      refine lv_iconst (v := 1) hx hb d_Desk_process_42 (by decide) ?_
      refine lv_iadd hx hb d_Desk_process_43 ?_
      obtain ⟨σ12, e13, hF⟩ := vL_some hF
      refine pf_Desk_processCount B hP hD hS (by decide) e13 L_Desk_58 d_Desk_process_44 (fun H locs hP hD hS => ?_)
      refine lv_aload_n hx hb d_Desk_process_47 rfl (lv_at hl 0 rfl) ?_
      refine gf_Desk_processCount B hP (by decide) L_Desk_58 d_Desk_process_48 ?_
      refine lv_iconst (v := 1) hx hb d_Desk_process_51 (by decide) ?_
      refine lv_isub hx hb d_Desk_process_52 ?_
      exact ed_rI B hr hA hP hD hS (vP hF) d_Desk_process_53
    · have hF := vIt c5 hF
      refine lv_bipush (v := (-2)) hx hb d_Desk_process_21 (by decide) ?_
      exact ed_rI B hr hA hP hD hS (vP hF) d_Desk_process_23
  · have hF := vIt c4 hF
    refine lv_iconst (v := (-1)) hx hb d_Desk_process_11 (by decide) ?_
    exact ed_rI B hr hA hP hD hS (vP hF) d_Desk_process_12
set_option maxHeartbeats 4000000 in
set_option maxRecDepth 100000 in
theorem C_Desk_process (l : Launch) (D : va_G) (ad : Nat → Nat) (ca : Nat → ClassId) (x1 : Int32) (σ : ed_S) (r : Int32) (σ' : ed_S) (hF : F_Desk_process x1 σ = some (r, σ')) : ed_MI l y_Desk_process ws_Desk_process rm_Desk_process D ca (ed_w ad ca) [.ref (ad (pDesk 0)), .int x1] σ r σ' := by
  refine ed_metI (cc := prog_1_method_2_code) (own := "ExecutiveDesk") (nL := 2) (ret := (some .int)) (by decide) rfl rfl (Nat.le_of_ble_eq_true rfl) ?_
  intro p e s m args below meth c A B hr hA
  exact T_Desk_process B hr hA x1 σ  hF
abbrev ws_Proc_hasEnded : List Cond := Cond.code y_Proc_hasEnded prog_3_method_2_code 1 (some .boolean) :: ed_tb
abbrev rm_Proc_hasEnded : Room := { frames := 0, cells := 0, slots := 0, locals := 0 }
def F_Proc_hasEnded (i0 : Nat) (σ : ed_S) : Option (Int32 × ed_S) := (if (σ 20 i0 0) ≤ 0 then (some (0, σ)) else (if (σ 21 i0 0) = 0 then (some (1, σ)) else (some (0, σ))))
set_option maxHeartbeats 4000000 in
set_option maxRecDepth 100000 in
theorem T_Proc_hasEnded {r : Int32} {σ' : ed_S} (B : ed_B p s m args meth c prog_3_method_2_code "ExecutiveDesk$ProcessState" 1 D ca) (hr : meth.sig.returnType = (some .boolean)) (hA : ∀ q : Nat, s.heap.size ≤ q → A q) : ∀ (i0 : Nat) (σ : ed_S), i0 < 4 → F_Proc_hasEnded  i0 σ = some (r, σ') → ed_G p l e rm_Proc_hasEnded s m args below meth c D ca (ed_w ad ca) A (ed_QI D ca (ed_w ad ca) A below args s r σ') 1 0 [(0, .ref (ad (pProc i0)))] [] σ := by
  have hx := B.1
  have hb := B.2.1
  intro i0 σ h0 hF H locs ls hP hD hS hl
  have hF : (if (σ 20 i0 0) ≤ 0 then (some (0, σ)) else (if (σ 21 i0 0) = 0 then (some (1, σ)) else (some (0, σ)))) = some (r, σ') := hF
  refine lv_aload_n hx hb d_Proc_hasEnded_0 rfl (lv_at hl 0 rfl) ?_
  refine gf_Proc_threadsMade B hP h0 L_Proc_18 d_Proc_hasEnded_1 ?_
  refine lv_if_le (tgt := 18) hx hb d_Proc_hasEnded_4 (by decide) (fun c1 => ?_) (fun c1 => ?_)
  · have hF := vIt c1 hF
    refine lv_iconst (v := 0) hx hb d_Proc_hasEnded_18 (by decide) ?_
    exact ed_rZ B hr hA hP hD hS (by decide) (vP hF) d_Proc_hasEnded_19
  · have hF := vIf c1 hF
    refine lv_aload_n hx hb d_Proc_hasEnded_7 rfl (lv_at hl 0 rfl) ?_
    refine gf_Proc_threadsAlive B hP h0 L_Proc_22 d_Proc_hasEnded_8 ?_
    refine lv_if_ne (tgt := 18) hx hb d_Proc_hasEnded_11 (by decide) (fun c2 => ?_) (fun c2 => ?_)
    · have hF := vIf c2 hF
      refine lv_iconst (v := 0) hx hb d_Proc_hasEnded_18 (by decide) ?_
      exact ed_rZ B hr hA hP hD hS (by decide) (vP hF) d_Proc_hasEnded_19
    · have hF := vIt c2 hF
      refine lv_iconst (v := 1) hx hb d_Proc_hasEnded_14 (by decide) ?_
      refine lv_goto (tgt := 19) hx hb d_Proc_hasEnded_15 (by decide) ?_
      exact ed_rZ B hr hA hP hD hS (by decide) (vP hF) d_Proc_hasEnded_19
set_option maxHeartbeats 4000000 in
set_option maxRecDepth 100000 in
theorem C_Proc_hasEnded (l : Launch) (D : va_G) (ad : Nat → Nat) (ca : Nat → ClassId) (i0 : Nat) (σ : ed_S) (r : Int32) (σ' : ed_S) (h0 : i0 < 4) (hF : F_Proc_hasEnded i0 σ = some (r, σ')) : ed_MI l y_Proc_hasEnded ws_Proc_hasEnded rm_Proc_hasEnded D ca (ed_w ad ca) [.ref (ad (pProc i0))] σ r σ' := by
  refine ed_metI (cc := prog_3_method_2_code) (own := "ExecutiveDesk$ProcessState") (nL := 1) (ret := (some .boolean)) (by decide) rfl rfl (Nat.le_of_ble_eq_true rfl) ?_
  intro p e s m args below meth c A B hr hA
  exact T_Proc_hasEnded B hr hA i0 σ h0 hF
abbrev ws_Row_addLast : List Cond := Cond.code y_Row_addLast prog_4_method_4_code 2 none :: ed_tb
abbrev rm_Row_addLast : Room := { frames := 0, cells := 0, slots := 0, locals := 0 }
def F_Row_addLast (i0 : Nat) (x1 : Int32) (σ : ed_S) : Option ed_S := (if (nI (ed_cap i0)) ≤ (σ 18 i0 0) then (some σ) else (vG (σ 18 i0 0) (ed_cap i0) fun j2 => vL (ed_st σ 39 i0 j2 x1) fun σ6 => (vL (ed_st σ6 18 i0 0 ((σ6 18 i0 0) + 1)) fun σ8 => (some σ8))))
set_option maxHeartbeats 4000000 in
set_option maxRecDepth 100000 in
theorem T_Row_addLast {σ' : ed_S} (B : ed_B p s m args meth c prog_4_method_4_code "ExecutiveDesk$Row" 2 D ca) (hr : meth.sig.returnType = none) (hA : ∀ q : Nat, s.heap.size ≤ q → A q) : ∀ (i0 : Nat) (x1 : Int32) (σ : ed_S), i0 < 34 → F_Row_addLast  i0 x1 σ = some σ' → ed_G p l e rm_Row_addLast s m args below meth c D ca (ed_w ad ca) A (ed_QV D ca (ed_w ad ca) A below args s σ') 2 0 [(0, .ref (ad (pRow i0))), (1, .int x1)] [] σ := by
  have hx := B.1
  have hb := B.2.1
  intro i0 x1 σ h0 hF H locs ls hP hD hS hl
  have hF : (if (nI (ed_cap i0)) ≤ (σ 18 i0 0) then (some σ) else (vG (σ 18 i0 0) (ed_cap i0) fun j2 => vL (ed_st σ 39 i0 j2 x1) fun σ6 => (vL (ed_st σ6 18 i0 0 ((σ6 18 i0 0) + 1)) fun σ8 => (some σ8)))) = some σ' := hF
  refine lv_aload_n hx hb d_Row_addLast_0 rfl (lv_at hl 0 rfl) ?_
  refine gf_Row_size B hP h0 L_Row_15 d_Row_addLast_1 ?_
  refine lv_aload_n hx hb d_Row_addLast_4 rfl (lv_at hl 0 rfl) ?_
  refine gf_Row_items B hP h0 L_Row_9 d_Row_addLast_5 ?_
  refine an_Itm B hP h0 d_Row_addLast_8 ?_
  refine lv_icmp_ge (tgt := 32) hx hb d_Row_addLast_9 (by decide) (fun c1 => ?_) (fun c1 => ?_)
  · have hF := vIt c1 hF
    exact ed_rV B hr hA hP hD hS (Option.some.inj hF) d_Row_addLast_32
  · have hF := vIf c1 hF
    refine lv_aload_n hx hb d_Row_addLast_12 rfl (lv_at hl 0 rfl) ?_
    refine gf_Row_items B hP h0 L_Row_9 d_Row_addLast_13 ?_
    refine lv_aload_n hx hb d_Row_addLast_16 rfl (lv_at hl 0 rfl) ?_
    refine gf_Row_size B hP h0 L_Row_15 d_Row_addLast_17 ?_
    refine lv_iload_n hx hb d_Row_addLast_20 rfl (lv_at hl 1 rfl) ?_
    obtain ⟨j2, ej3, hj4, hn5, hF⟩ := vG_some hF
    obtain ⟨σ6, e7, hF⟩ := vL_some hF
    refine is_Itm B hP hD hS h0 hn5 ej3 e7 d_Row_addLast_21 (fun H locs hP hD hS => ?_)
    refine lv_aload_n hx hb d_Row_addLast_22 rfl (lv_at hl 0 rfl) ?_
    refine lv_dup hx hb d_Row_addLast_23 rfl ?_
    refine gf_Row_size B hP h0 L_Row_15 d_Row_addLast_24 ?_
    refine lv_iconst (v := 1) hx hb d_Row_addLast_27 (by decide) ?_
    refine lv_iadd hx hb d_Row_addLast_28 ?_
    obtain ⟨σ8, e9, hF⟩ := vL_some hF
    refine pf_Row_size B hP hD hS h0 e9 L_Row_15 d_Row_addLast_29 (fun H locs hP hD hS => ?_)
    exact ed_rV B hr hA hP hD hS (Option.some.inj hF) d_Row_addLast_32
set_option maxHeartbeats 4000000 in
set_option maxRecDepth 100000 in
theorem C_Row_addLast (l : Launch) (D : va_G) (ad : Nat → Nat) (ca : Nat → ClassId) (i0 : Nat) (x1 : Int32) (σ : ed_S) (σ' : ed_S) (h0 : i0 < 34) (hF : F_Row_addLast i0 x1 σ = some σ') : ed_MV l y_Row_addLast ws_Row_addLast rm_Row_addLast D ca (ed_w ad ca) [.ref (ad (pRow i0)), .int x1] σ σ' := by
  refine ed_metV (cc := prog_4_method_4_code) (own := "ExecutiveDesk$Row") (nL := 2) (ret := none) (by decide) rfl rfl (Nat.le_of_ble_eq_true rfl) ?_
  intro p e s m args below meth c A B hr hA
  exact T_Row_addLast B hr hA i0 x1 σ h0 hF
abbrev ws_Sched_makeReady : List Cond := Cond.code y_Sched_makeReady prog_6_method_2_code 2 none :: ed_tb
abbrev rm_Sched_makeReady : Room := { frames := 1, cells := 0, slots := 0, locals := 21 }
def F_Sched_makeReady (x1 : Int32) (σ : ed_S) : Option ed_S := (vG x1 8 fun j1 => (vL (ed_st σ 10 j1 0 1) fun σ5 => (vG x1 8 fun j7 => (vG (σ5 9 j7 0) 8 fun j11 => (vB1 (F_Row_addLast (8 + j11) x1 σ5) fun σ15 => (some σ15))))))
set_option maxHeartbeats 4000000 in
set_option maxRecDepth 100000 in
theorem T_Sched_makeReady {σ' : ed_S} (B : ed_B p s m args meth c prog_6_method_2_code "ExecutiveDesk$Scheduler" 2 D ca) (hr : meth.sig.returnType = none) (hA : ∀ q : Nat, s.heap.size ≤ q → A q) : ∀ (x1 : Int32) (σ : ed_S), F_Sched_makeReady  x1 σ = some σ' → ed_G p l e rm_Sched_makeReady s m args below meth c D ca (ed_w ad ca) A (ed_QV D ca (ed_w ad ca) A below args s σ') 2 0 [(0, .ref (ad (pSched 0))), (1, .int x1)] [] σ := by
  have hx := B.1
  have hb := B.2.1
  intro x1 σ  hF H locs ls hP hD hS hl
  have hF : (vG x1 8 fun j1 => (vL (ed_st σ 10 j1 0 1) fun σ5 => (vG x1 8 fun j7 => (vG (σ5 9 j7 0) 8 fun j11 => (vB1 (F_Row_addLast (8 + j11) x1 σ5) fun σ15 => (some σ15)))))) = some σ' := hF
  refine lv_aload_n hx hb d_Sched_makeReady_0 rfl (lv_at hl 0 rfl) ?_
  refine gf_Sched_threads B hP (by decide) L_Sched_11 d_Sched_makeReady_1 ?_
  refine lv_iload_n hx hb d_Sched_makeReady_4 rfl (lv_at hl 1 rfl) ?_
  obtain ⟨j1, ej2, hj3, hn4, hF⟩ := vG_some hF
  refine al_AThr B hP (by decide) hn4 ej2 hj3 d_Sched_makeReady_5 ?_
  refine lv_iconst (v := 1) hx hb d_Sched_makeReady_6 (by decide) ?_
  obtain ⟨σ5, e6, hF⟩ := vL_some hF
  refine pf_Thr_state B hP hD hS hj3 e6 L_Sched_34 d_Sched_makeReady_7 (fun H locs hP hD hS => ?_)
  refine lv_aload_n hx hb d_Sched_makeReady_10 rfl (lv_at hl 0 rfl) ?_
  refine gf_Sched_ready B hP (by decide) L_Sched_19 d_Sched_makeReady_11 ?_
  refine lv_aload_n hx hb d_Sched_makeReady_14 rfl (lv_at hl 0 rfl) ?_
  refine gf_Sched_threads B hP (by decide) L_Sched_11 d_Sched_makeReady_15 ?_
  refine lv_iload_n hx hb d_Sched_makeReady_18 rfl (lv_at hl 1 rfl) ?_
  obtain ⟨j7, ej8, hj9, hn10, hF⟩ := vG_some hF
  refine al_AThr B hP (by decide) hn10 ej8 hj9 d_Sched_makeReady_19 ?_
  refine gf_Thr_priority B hP hj9 L_Sched_37 d_Sched_makeReady_20 ?_
  obtain ⟨j11, ej12, hj13, hn14, hF⟩ := vG_some hF
  refine al_ARdy B hP (by decide) hn14 ej12 hj13 d_Sched_makeReady_23 ?_
  refine lv_iload_n hx hb d_Sched_makeReady_24 rfl (lv_at hl 1 rfl) ?_
  obtain ⟨σ15, q16, hF⟩ := vB1_some hF
  refine ed_cvV (As := [.int x1]) (rest := []) B hP hD hS hA (C_Row_addLast l D ad ca (8 + j11) x1 σ5 σ15 (ed_b8 hj13) q16) me_Row_addLast mv_Row_addLast L_Sched_40 (ed_rc_Row B hP (ed_b8 hj13)) ⟨rfl, rfl⟩ ⟨Nat.le_of_ble_eq_true rfl, Nat.le_of_ble_eq_true rfl⟩ rfl rfl hl.1 (lv_room (Nat.le_of_ble_eq_true rfl)) d_Sched_makeReady_25 (fun H locs hP hD hS => ?_)
  exact ed_rV B hr hA hP hD hS (Option.some.inj hF) d_Sched_makeReady_28
set_option maxHeartbeats 4000000 in
set_option maxRecDepth 100000 in
theorem C_Sched_makeReady (l : Launch) (D : va_G) (ad : Nat → Nat) (ca : Nat → ClassId) (x1 : Int32) (σ : ed_S) (σ' : ed_S) (hF : F_Sched_makeReady x1 σ = some σ') : ed_MV l y_Sched_makeReady ws_Sched_makeReady rm_Sched_makeReady D ca (ed_w ad ca) [.ref (ad (pSched 0)), .int x1] σ σ' := by
  refine ed_metV (cc := prog_6_method_2_code) (own := "ExecutiveDesk$Scheduler") (nL := 2) (ret := none) (by decide) rfl rfl (Nat.le_of_ble_eq_true rfl) ?_
  intro p e s m args below meth c A B hr hA
  exact T_Sched_makeReady B hr hA x1 σ  hF
abbrev ws_Sched_bestPriority : List Cond := Cond.code y_Sched_bestPriority prog_6_method_5_code 2 (some .int) :: ed_tb
abbrev rm_Sched_bestPriority : Room := { frames := 0, cells := 0, slots := 0, locals := 0 }
def F_Sched_bestPriority_3 : Nat → Int32 → ed_S → Option (Int32 × ed_S)
  | 0, _, _ => none
  | n + 1, x1, σ => (if x1 < 0 then (some ((-1), σ)) else (vG x1 8 fun j2 => (if (σ 18 (8 + j2) 0) ≤ 0 then ((F_Sched_bestPriority_3  n) (x1 + (-1)) σ) else (some (x1, σ)))))
def F_Sched_bestPriority (σ : ed_S) : Option (Int32 × ed_S) := (F_Sched_bestPriority_3  ed_fu 7 σ)
set_option maxHeartbeats 4000000 in
set_option maxRecDepth 100000 in
theorem T_Sched_bestPriority_3 {r : Int32} {σ' : ed_S} (B : ed_B p s m args meth c prog_6_method_5_code "ExecutiveDesk$Scheduler" 2 D ca) (hr : meth.sig.returnType = (some .int)) (hA : ∀ q : Nat, s.heap.size ≤ q → A q) : ∀ (n : Nat) (x1 : Int32) (σ : ed_S), F_Sched_bestPriority_3  n x1 σ = some (r, σ') → ed_G p l e rm_Sched_bestPriority s m args below meth c D ca (ed_w ad ca) A (ed_QI D ca (ed_w ad ca) A below args s r σ') 2 3 [(0, .ref (ad (pSched 0))), (1, .int x1)] [] σ := by
  have hx := B.1
  have hb := B.2.1
  intro n
  induction n with
  | zero => intro x1 σ  hF; exact absurd hF (by intro h; cases h)
  | succ n kk3 =>
    intro x1 σ  hF H locs ls hP hD hS hl
    have hF : (if x1 < 0 then (some ((-1), σ)) else (vG x1 8 fun j2 => (if (σ 18 (8 + j2) 0) ≤ 0 then ((F_Sched_bestPriority_3  n) (x1 + (-1)) σ) else (some (x1, σ))))) = some (r, σ') := hF
    refine lv_iload_n hx hb d_Sched_bestPriority_3 rfl (lv_at hl 1 rfl) ?_
    refine lv_if_lt (tgt := 27) hx hb d_Sched_bestPriority_4 (by decide) (fun c1 => ?_) (fun c1 => ?_)
    · have hF := vIt c1 hF
      refine lv_iconst (v := (-1)) hx hb d_Sched_bestPriority_27 (by decide) ?_
      exact ed_rI B hr hA hP hD hS (vP hF) d_Sched_bestPriority_28
    · have hF := vIf c1 hF
      refine lv_aload_n hx hb d_Sched_bestPriority_7 rfl (lv_at hl 0 rfl) ?_
      refine gf_Sched_ready B hP (by decide) L_Sched_19 d_Sched_bestPriority_8 ?_
      refine lv_iload_n hx hb d_Sched_bestPriority_11 rfl (lv_at hl 1 rfl) ?_
      obtain ⟨j2, ej3, hj4, hn5, hF⟩ := vG_some hF
      refine al_ARdy B hP (by decide) hn5 ej3 hj4 d_Sched_bestPriority_12 ?_
      refine gf_Row_size B hP (ed_b8 hj4) L_Sched_56 d_Sched_bestPriority_13 ?_
      refine lv_if_le (tgt := 21) hx hb d_Sched_bestPriority_16 (by decide) (fun c6 => ?_) (fun c6 => ?_)
      · have hF := vIt c6 hF
        refine lv_iinc (v := (x1 + (-1))) (lv' := [(1, .int (x1 + (-1))), (0, .ref (ad (pSched 0)))]) hx hb d_Sched_bestPriority_21 hl (k := 1) rfl rfl (by decide) rfl (fun ls hl => ?_)
        refine lv_goto (tgt := 3) hx hb d_Sched_bestPriority_24 (by decide) ?_
        exact kk3 (x1 + (-1)) σ  hF _ _ _ hP hD hS (lv_sub hl [1, 0] rfl)
      · have hF := vIf c6 hF
        refine lv_iload_n hx hb d_Sched_bestPriority_19 rfl (lv_at hl 1 rfl) ?_
        exact ed_rI B hr hA hP hD hS (vP hF) d_Sched_bestPriority_20
set_option maxHeartbeats 4000000 in
set_option maxRecDepth 100000 in
theorem T_Sched_bestPriority {r : Int32} {σ' : ed_S} (B : ed_B p s m args meth c prog_6_method_5_code "ExecutiveDesk$Scheduler" 2 D ca) (hr : meth.sig.returnType = (some .int)) (hA : ∀ q : Nat, s.heap.size ≤ q → A q) : ∀ (σ : ed_S), F_Sched_bestPriority   σ = some (r, σ') → ed_G p l e rm_Sched_bestPriority s m args below meth c D ca (ed_w ad ca) A (ed_QI D ca (ed_w ad ca) A below args s r σ') 2 0 [(0, .ref (ad (pSched 0)))] [] σ := by
  have hx := B.1
  have hb := B.2.1
  intro  σ  hF H locs ls hP hD hS hl
  have hF : (F_Sched_bestPriority_3  ed_fu 7 σ) = some (r, σ') := hF
  refine lv_bipush (v := 7) hx hb d_Sched_bestPriority_0 (by decide) ?_
  refine lv_istore_n (lv' := [(1, .int 7), (0, .ref (ad (pSched 0)))]) hx hb d_Sched_bestPriority_2 rfl hl (by decide) rfl (fun ls hl => ?_)
  exact T_Sched_bestPriority_3 B hr hA  ed_fu 7 σ  hF _ _ _ hP hD hS (lv_sub hl [1, 0] rfl)
set_option maxHeartbeats 4000000 in
set_option maxRecDepth 100000 in
theorem C_Sched_bestPriority (l : Launch) (D : va_G) (ad : Nat → Nat) (ca : Nat → ClassId) (σ : ed_S) (r : Int32) (σ' : ed_S) (hF : F_Sched_bestPriority  σ = some (r, σ')) : ed_MI l y_Sched_bestPriority ws_Sched_bestPriority rm_Sched_bestPriority D ca (ed_w ad ca) [.ref (ad (pSched 0))] σ r σ' := by
  refine ed_metI (cc := prog_6_method_5_code) (own := "ExecutiveDesk$Scheduler") (nL := 2) (ret := (some .int)) (by decide) rfl rfl (Nat.le_of_ble_eq_true rfl) ?_
  intro p e s m args below meth c A B hr hA
  exact T_Sched_bestPriority B hr hA  σ  hF
abbrev ws_Row_addFirst : List Cond := Cond.code y_Row_addFirst prog_4_method_5_code 3 none :: ed_tb
abbrev rm_Row_addFirst : Room := { frames := 0, cells := 0, slots := 0, locals := 0 }
def F_Row_addFirst_17 : Nat → Nat → Int32 → Int32 → ed_S → Option ed_S
  | 0, _, _, _, _ => none
  | n + 1, i0, x1, x2, σ => (if x2 ≤ 0 then (vG 0 (ed_cap i0) fun j2 => vL (ed_st σ 39 i0 j2 x1) fun σ6 => (vL (ed_st σ6 18 i0 0 ((σ6 18 i0 0) + 1)) fun σ8 => (some σ8))) else (vG (x2 - 1) (ed_cap i0) fun j10 => (vG x2 (ed_cap i0) fun j14 => vL (ed_st σ 39 i0 j14 (σ 39 i0 j10)) fun σ18 => ((F_Row_addFirst_17  n) i0 x1 (x2 + (-1)) σ18))))
def F_Row_addFirst (i0 : Nat) (x1 : Int32) (σ : ed_S) : Option ed_S := (if (nI (ed_cap i0)) ≤ (σ 18 i0 0) then (some σ) else (F_Row_addFirst_17  ed_fu i0 x1 (σ 18 i0 0) σ))
set_option maxHeartbeats 4000000 in
set_option maxRecDepth 100000 in
theorem T_Row_addFirst_17 {σ' : ed_S} (B : ed_B p s m args meth c prog_4_method_5_code "ExecutiveDesk$Row" 3 D ca) (hr : meth.sig.returnType = none) (hA : ∀ q : Nat, s.heap.size ≤ q → A q) : ∀ (n : Nat) (i0 : Nat) (x1 : Int32) (x2 : Int32) (σ : ed_S), i0 < 34 → F_Row_addFirst_17  n i0 x1 x2 σ = some σ' → ed_G p l e rm_Row_addFirst s m args below meth c D ca (ed_w ad ca) A (ed_QV D ca (ed_w ad ca) A below args s σ') 3 17 [(0, .ref (ad (pRow i0))), (1, .int x1), (2, .int x2)] [] σ := by
  have hx := B.1
  have hb := B.2.1
  intro n
  induction n with
  | zero => intro i0 x1 x2 σ h0 hF; exact absurd hF (by intro h; cases h)
  | succ n kk17 =>
    intro i0 x1 x2 σ h0 hF H locs ls hP hD hS hl
    have hF : (if x2 ≤ 0 then (vG 0 (ed_cap i0) fun j2 => vL (ed_st σ 39 i0 j2 x1) fun σ6 => (vL (ed_st σ6 18 i0 0 ((σ6 18 i0 0) + 1)) fun σ8 => (some σ8))) else (vG (x2 - 1) (ed_cap i0) fun j10 => (vG x2 (ed_cap i0) fun j14 => vL (ed_st σ 39 i0 j14 (σ 39 i0 j10)) fun σ18 => ((F_Row_addFirst_17  n) i0 x1 (x2 + (-1)) σ18)))) = some σ' := hF
    refine lv_iload_n hx hb d_Row_addFirst_17 rfl (lv_at hl 2 rfl) ?_
    refine lv_if_le (tgt := 41) hx hb d_Row_addFirst_18 (by decide) (fun c1 => ?_) (fun c1 => ?_)
    · have hF := vIt c1 hF
      refine lv_aload_n hx hb d_Row_addFirst_41 rfl (lv_at hl 0 rfl) ?_
      refine gf_Row_items B hP h0 L_Row_9 d_Row_addFirst_42 ?_
      refine lv_iconst (v := 0) hx hb d_Row_addFirst_45 (by decide) ?_
      refine lv_iload_n hx hb d_Row_addFirst_46 rfl (lv_at hl 1 rfl) ?_
      obtain ⟨j2, ej3, hj4, hn5, hF⟩ := vG_some hF
      obtain ⟨σ6, e7, hF⟩ := vL_some hF
      refine is_Itm B hP hD hS h0 hn5 ej3 e7 d_Row_addFirst_47 (fun H locs hP hD hS => ?_)
      refine lv_aload_n hx hb d_Row_addFirst_48 rfl (lv_at hl 0 rfl) ?_
      refine lv_dup hx hb d_Row_addFirst_49 rfl ?_
      refine gf_Row_size B hP h0 L_Row_15 d_Row_addFirst_50 ?_
      refine lv_iconst (v := 1) hx hb d_Row_addFirst_53 (by decide) ?_
      refine lv_iadd hx hb d_Row_addFirst_54 ?_
      obtain ⟨σ8, e9, hF⟩ := vL_some hF
      refine pf_Row_size B hP hD hS h0 e9 L_Row_15 d_Row_addFirst_55 (fun H locs hP hD hS => ?_)
      exact ed_rV B hr hA hP hD hS (Option.some.inj hF) d_Row_addFirst_58
    · have hF := vIf c1 hF
      refine lv_aload_n hx hb d_Row_addFirst_21 rfl (lv_at hl 0 rfl) ?_
      refine gf_Row_items B hP h0 L_Row_9 d_Row_addFirst_22 ?_
      refine lv_iload_n hx hb d_Row_addFirst_25 rfl (lv_at hl 2 rfl) ?_
      refine lv_aload_n hx hb d_Row_addFirst_26 rfl (lv_at hl 0 rfl) ?_
      refine gf_Row_items B hP h0 L_Row_9 d_Row_addFirst_27 ?_
      refine lv_iload_n hx hb d_Row_addFirst_30 rfl (lv_at hl 2 rfl) ?_
      refine lv_iconst (v := 1) hx hb d_Row_addFirst_31 (by decide) ?_
      refine lv_isub hx hb d_Row_addFirst_32 ?_
      obtain ⟨j10, ej11, hj12, hn13, hF⟩ := vG_some hF
      refine il_Itm B hP h0 hn13 ej11 d_Row_addFirst_33 ?_
      obtain ⟨j14, ej15, hj16, hn17, hF⟩ := vG_some hF
      obtain ⟨σ18, e19, hF⟩ := vL_some hF
      refine is_Itm B hP hD hS h0 hn17 ej15 e19 d_Row_addFirst_34 (fun H locs hP hD hS => ?_)
      refine lv_iinc (v := (x2 + (-1))) (lv' := [(2, .int (x2 + (-1))), (0, .ref (ad (pRow i0))), (1, .int x1)]) hx hb d_Row_addFirst_35 hl (k := 2) rfl rfl (by decide) rfl (fun ls hl => ?_)
      refine lv_goto (tgt := 17) hx hb d_Row_addFirst_38 (by decide) ?_
      exact kk17 i0 x1 (x2 + (-1)) σ18 h0 hF _ _ _ hP hD hS (lv_sub hl [1, 2, 0] rfl)
set_option maxHeartbeats 4000000 in
set_option maxRecDepth 100000 in
theorem T_Row_addFirst {σ' : ed_S} (B : ed_B p s m args meth c prog_4_method_5_code "ExecutiveDesk$Row" 3 D ca) (hr : meth.sig.returnType = none) (hA : ∀ q : Nat, s.heap.size ≤ q → A q) : ∀ (i0 : Nat) (x1 : Int32) (σ : ed_S), i0 < 34 → F_Row_addFirst  i0 x1 σ = some σ' → ed_G p l e rm_Row_addFirst s m args below meth c D ca (ed_w ad ca) A (ed_QV D ca (ed_w ad ca) A below args s σ') 3 0 [(0, .ref (ad (pRow i0))), (1, .int x1)] [] σ := by
  have hx := B.1
  have hb := B.2.1
  intro i0 x1 σ h0 hF H locs ls hP hD hS hl
  have hF : (if (nI (ed_cap i0)) ≤ (σ 18 i0 0) then (some σ) else (F_Row_addFirst_17  ed_fu i0 x1 (σ 18 i0 0) σ)) = some σ' := hF
  refine lv_aload_n hx hb d_Row_addFirst_0 rfl (lv_at hl 0 rfl) ?_
  refine gf_Row_size B hP h0 L_Row_15 d_Row_addFirst_1 ?_
  refine lv_aload_n hx hb d_Row_addFirst_4 rfl (lv_at hl 0 rfl) ?_
  refine gf_Row_items B hP h0 L_Row_9 d_Row_addFirst_5 ?_
  refine an_Itm B hP h0 d_Row_addFirst_8 ?_
  refine lv_icmp_ge (tgt := 58) hx hb d_Row_addFirst_9 (by decide) (fun c1 => ?_) (fun c1 => ?_)
  · have hF := vIt c1 hF
    exact ed_rV B hr hA hP hD hS (Option.some.inj hF) d_Row_addFirst_58
  · have hF := vIf c1 hF
    refine lv_aload_n hx hb d_Row_addFirst_12 rfl (lv_at hl 0 rfl) ?_
    refine gf_Row_size B hP h0 L_Row_15 d_Row_addFirst_13 ?_
    refine lv_istore_n (lv' := [(2, .int (σ 18 i0 0)), (0, .ref (ad (pRow i0))), (1, .int x1)]) hx hb d_Row_addFirst_16 rfl hl (by decide) rfl (fun ls hl => ?_)
    exact T_Row_addFirst_17 B hr hA  ed_fu i0 x1 (σ 18 i0 0) σ h0 hF _ _ _ hP hD hS (lv_sub hl [1, 2, 0] rfl)
set_option maxHeartbeats 4000000 in
set_option maxRecDepth 100000 in
theorem C_Row_addFirst (l : Launch) (D : va_G) (ad : Nat → Nat) (ca : Nat → ClassId) (i0 : Nat) (x1 : Int32) (σ : ed_S) (σ' : ed_S) (h0 : i0 < 34) (hF : F_Row_addFirst i0 x1 σ = some σ') : ed_MV l y_Row_addFirst ws_Row_addFirst rm_Row_addFirst D ca (ed_w ad ca) [.ref (ad (pRow i0)), .int x1] σ σ' := by
  refine ed_metV (cc := prog_4_method_5_code) (own := "ExecutiveDesk$Row") (nL := 3) (ret := none) (by decide) rfl rfl (Nat.le_of_ble_eq_true rfl) ?_
  intro p e s m args below meth c A B hr hA
  exact T_Row_addFirst B hr hA i0 x1 σ h0 hF
abbrev ws_Row_removeFirst : List Cond := Cond.code y_Row_removeFirst prog_4_method_6_code 3 (some .int) :: ed_tb
abbrev rm_Row_removeFirst : Room := { frames := 0, cells := 0, slots := 0, locals := 0 }
def F_Row_removeFirst_28 : Nat → Nat → Int32 → Int32 → ed_S → Option (Int32 × ed_S)
  | 0, _, _, _, _ => none
  | n + 1, i0, x1, x2, σ => (if (σ 18 i0 0) ≤ x2 then (some (x1, σ)) else (vG (x2 + 1) (ed_cap i0) fun j2 => (vG x2 (ed_cap i0) fun j6 => vL (ed_st σ 39 i0 j6 (σ 39 i0 j2)) fun σ10 => ((F_Row_removeFirst_28  n) i0 x1 (x2 + 1) σ10))))
def F_Row_removeFirst (i0 : Nat) (σ : ed_S) : Option (Int32 × ed_S) := (if (σ 18 i0 0) = 0 then (some ((-1), σ)) else (vG 0 (ed_cap i0) fun j2 => (vL (ed_st σ 18 i0 0 ((σ 18 i0 0) - 1)) fun σ6 => (F_Row_removeFirst_28  ed_fu i0 (σ 39 i0 j2) 0 σ6))))
set_option maxHeartbeats 4000000 in
set_option maxRecDepth 100000 in
theorem T_Row_removeFirst_28 {r : Int32} {σ' : ed_S} (B : ed_B p s m args meth c prog_4_method_6_code "ExecutiveDesk$Row" 3 D ca) (hr : meth.sig.returnType = (some .int)) (hA : ∀ q : Nat, s.heap.size ≤ q → A q) : ∀ (n : Nat) (i0 : Nat) (x1 : Int32) (x2 : Int32) (σ : ed_S), i0 < 34 → F_Row_removeFirst_28  n i0 x1 x2 σ = some (r, σ') → ed_G p l e rm_Row_removeFirst s m args below meth c D ca (ed_w ad ca) A (ed_QI D ca (ed_w ad ca) A below args s r σ') 3 28 [(0, .ref (ad (pRow i0))), (1, .int x1), (2, .int x2)] [] σ := by
  have hx := B.1
  have hb := B.2.1
  intro n
  induction n with
  | zero => intro i0 x1 x2 σ h0 hF; exact absurd hF (by intro h; cases h)
  | succ n kk28 =>
    intro i0 x1 x2 σ h0 hF H locs ls hP hD hS hl
    have hF : (if (σ 18 i0 0) ≤ x2 then (some (x1, σ)) else (vG (x2 + 1) (ed_cap i0) fun j2 => (vG x2 (ed_cap i0) fun j6 => vL (ed_st σ 39 i0 j6 (σ 39 i0 j2)) fun σ10 => ((F_Row_removeFirst_28  n) i0 x1 (x2 + 1) σ10)))) = some (r, σ') := hF
    refine lv_iload_n hx hb d_Row_removeFirst_28 rfl (lv_at hl 2 rfl) ?_
    refine lv_aload_n hx hb d_Row_removeFirst_29 rfl (lv_at hl 0 rfl) ?_
    refine gf_Row_size B hP h0 L_Row_15 d_Row_removeFirst_30 ?_
    refine lv_icmp_ge (tgt := 56) hx hb d_Row_removeFirst_33 (by decide) (fun c1 => ?_) (fun c1 => ?_)
    · have hF := vIt c1 hF
      refine lv_iload_n hx hb d_Row_removeFirst_56 rfl (lv_at hl 1 rfl) ?_
      exact ed_rI B hr hA hP hD hS (vP hF) d_Row_removeFirst_57
    · have hF := vIf c1 hF
      refine lv_aload_n hx hb d_Row_removeFirst_36 rfl (lv_at hl 0 rfl) ?_
      refine gf_Row_items B hP h0 L_Row_9 d_Row_removeFirst_37 ?_
      refine lv_iload_n hx hb d_Row_removeFirst_40 rfl (lv_at hl 2 rfl) ?_
      refine lv_aload_n hx hb d_Row_removeFirst_41 rfl (lv_at hl 0 rfl) ?_
      refine gf_Row_items B hP h0 L_Row_9 d_Row_removeFirst_42 ?_
      refine lv_iload_n hx hb d_Row_removeFirst_45 rfl (lv_at hl 2 rfl) ?_
      refine lv_iconst (v := 1) hx hb d_Row_removeFirst_46 (by decide) ?_
      refine lv_iadd hx hb d_Row_removeFirst_47 ?_
      obtain ⟨j2, ej3, hj4, hn5, hF⟩ := vG_some hF
      refine il_Itm B hP h0 hn5 ej3 d_Row_removeFirst_48 ?_
      obtain ⟨j6, ej7, hj8, hn9, hF⟩ := vG_some hF
      obtain ⟨σ10, e11, hF⟩ := vL_some hF
      refine is_Itm B hP hD hS h0 hn9 ej7 e11 d_Row_removeFirst_49 (fun H locs hP hD hS => ?_)
      refine lv_iinc (v := (x2 + 1)) (lv' := [(2, .int (x2 + 1)), (0, .ref (ad (pRow i0))), (1, .int x1)]) hx hb d_Row_removeFirst_50 hl (k := 2) rfl rfl (by decide) rfl (fun ls hl => ?_)
      refine lv_goto (tgt := 28) hx hb d_Row_removeFirst_53 (by decide) ?_
      exact kk28 i0 x1 (x2 + 1) σ10 h0 hF _ _ _ hP hD hS (lv_sub hl [1, 2, 0] rfl)
set_option maxHeartbeats 4000000 in
set_option maxRecDepth 100000 in
theorem T_Row_removeFirst {r : Int32} {σ' : ed_S} (B : ed_B p s m args meth c prog_4_method_6_code "ExecutiveDesk$Row" 3 D ca) (hr : meth.sig.returnType = (some .int)) (hA : ∀ q : Nat, s.heap.size ≤ q → A q) : ∀ (i0 : Nat) (σ : ed_S), i0 < 34 → F_Row_removeFirst  i0 σ = some (r, σ') → ed_G p l e rm_Row_removeFirst s m args below meth c D ca (ed_w ad ca) A (ed_QI D ca (ed_w ad ca) A below args s r σ') 3 0 [(0, .ref (ad (pRow i0)))] [] σ := by
  have hx := B.1
  have hb := B.2.1
  intro i0 σ h0 hF H locs ls hP hD hS hl
  have hF : (if (σ 18 i0 0) = 0 then (some ((-1), σ)) else (vG 0 (ed_cap i0) fun j2 => (vL (ed_st σ 18 i0 0 ((σ 18 i0 0) - 1)) fun σ6 => (F_Row_removeFirst_28  ed_fu i0 (σ 39 i0 j2) 0 σ6)))) = some (r, σ') := hF
  refine lv_aload_n hx hb d_Row_removeFirst_0 rfl (lv_at hl 0 rfl) ?_
  refine gf_Row_size B hP h0 L_Row_15 d_Row_removeFirst_1 ?_
  refine lv_if_ne (tgt := 9) hx hb d_Row_removeFirst_4 (by decide) (fun c1 => ?_) (fun c1 => ?_)
  · have hF := vIf c1 hF
    refine lv_aload_n hx hb d_Row_removeFirst_9 rfl (lv_at hl 0 rfl) ?_
    refine gf_Row_items B hP h0 L_Row_9 d_Row_removeFirst_10 ?_
    refine lv_iconst (v := 0) hx hb d_Row_removeFirst_13 (by decide) ?_
    obtain ⟨j2, ej3, hj4, hn5, hF⟩ := vG_some hF
    refine il_Itm B hP h0 hn5 ej3 d_Row_removeFirst_14 ?_
    refine lv_istore_n (lv' := [(1, .int (σ 39 i0 j2)), (0, .ref (ad (pRow i0)))]) hx hb d_Row_removeFirst_15 rfl hl (by decide) rfl (fun ls hl => ?_)
    refine lv_aload_n hx hb d_Row_removeFirst_16 rfl (lv_at hl 1 rfl) ?_
    refine lv_dup hx hb d_Row_removeFirst_17 rfl ?_
    refine gf_Row_size B hP h0 L_Row_15 d_Row_removeFirst_18 ?_
    refine lv_iconst (v := 1) hx hb d_Row_removeFirst_21 (by decide) ?_
    refine lv_isub hx hb d_Row_removeFirst_22 ?_
    obtain ⟨σ6, e7, hF⟩ := vL_some hF
    refine pf_Row_size B hP hD hS h0 e7 L_Row_15 d_Row_removeFirst_23 (fun H locs hP hD hS => ?_)
    refine lv_iconst (v := 0) hx hb d_Row_removeFirst_26 (by decide) ?_
    refine lv_istore_n (lv' := [(2, .int 0), (1, .int (σ 39 i0 j2)), (0, .ref (ad (pRow i0)))]) hx hb d_Row_removeFirst_27 rfl hl (by decide) rfl (fun ls hl => ?_)
    exact T_Row_removeFirst_28 B hr hA  ed_fu i0 (σ 39 i0 j2) 0 σ6 h0 hF _ _ _ hP hD hS (lv_sub hl [2, 1, 0] rfl)
  · have hF := vIt c1 hF
    refine lv_iconst (v := (-1)) hx hb d_Row_removeFirst_7 (by decide) ?_
    exact ed_rI B hr hA hP hD hS (vP hF) d_Row_removeFirst_8
set_option maxHeartbeats 4000000 in
set_option maxRecDepth 100000 in
theorem C_Row_removeFirst (l : Launch) (D : va_G) (ad : Nat → Nat) (ca : Nat → ClassId) (i0 : Nat) (σ : ed_S) (r : Int32) (σ' : ed_S) (h0 : i0 < 34) (hF : F_Row_removeFirst i0 σ = some (r, σ')) : ed_MI l y_Row_removeFirst ws_Row_removeFirst rm_Row_removeFirst D ca (ed_w ad ca) [.ref (ad (pRow i0))] σ r σ' := by
  refine ed_metI (cc := prog_4_method_6_code) (own := "ExecutiveDesk$Row") (nL := 3) (ret := (some .int)) (by decide) rfl rfl (Nat.le_of_ble_eq_true rfl) ?_
  intro p e s m args below meth c A B hr hA
  exact T_Row_removeFirst B hr hA i0 σ h0 hF
abbrev ws_Sched_runFirstOf : List Cond := Cond.code y_Sched_runFirstOf prog_6_method_6_code 2 none :: ed_tb
abbrev rm_Sched_runFirstOf : Room := { frames := 1, cells := 0, slots := 0, locals := 22 }
def F_Sched_runFirstOf (x1 : Int32) (σ : ed_S) : Option ed_S := (vG x1 8 fun j1 => (vB2 (F_Row_removeFirst (8 + j1) σ) fun r7 σ5 => (vL (ed_st σ5 5 0 0 r7) fun σ8 => (vG (σ8 5 0 0) 8 fun j10 => (vL (ed_st σ8 10 j10 0 0) fun σ14 => (if (σ14 5 0 0) = (σ14 6 0 0) then (some σ14) else (vL (ed_st σ14 6 0 0 (σ14 5 0 0)) fun σ17 => (vL (ed_st σ17 7 0 0 ((σ17 7 0 0) + 1)) fun σ19 => (some σ19)))))))))
set_option maxHeartbeats 4000000 in
set_option maxRecDepth 100000 in
theorem T_Sched_runFirstOf {σ' : ed_S} (B : ed_B p s m args meth c prog_6_method_6_code "ExecutiveDesk$Scheduler" 2 D ca) (hr : meth.sig.returnType = none) (hA : ∀ q : Nat, s.heap.size ≤ q → A q) : ∀ (x1 : Int32) (σ : ed_S), F_Sched_runFirstOf  x1 σ = some σ' → ed_G p l e rm_Sched_runFirstOf s m args below meth c D ca (ed_w ad ca) A (ed_QV D ca (ed_w ad ca) A below args s σ') 2 0 [(0, .ref (ad (pSched 0))), (1, .int x1)] [] σ := by
  have hx := B.1
  have hb := B.2.1
  intro x1 σ  hF H locs ls hP hD hS hl
  have hF : (vG x1 8 fun j1 => (vB2 (F_Row_removeFirst (8 + j1) σ) fun r7 σ5 => (vL (ed_st σ5 5 0 0 r7) fun σ8 => (vG (σ8 5 0 0) 8 fun j10 => (vL (ed_st σ8 10 j10 0 0) fun σ14 => (if (σ14 5 0 0) = (σ14 6 0 0) then (some σ14) else (vL (ed_st σ14 6 0 0 (σ14 5 0 0)) fun σ17 => (vL (ed_st σ17 7 0 0 ((σ17 7 0 0) + 1)) fun σ19 => (some σ19))))))))) = some σ' := hF
  refine lv_aload_n hx hb d_Sched_runFirstOf_0 rfl (lv_at hl 0 rfl) ?_
  refine lv_aload_n hx hb d_Sched_runFirstOf_1 rfl (lv_at hl 0 rfl) ?_
  refine gf_Sched_ready B hP (by decide) L_Sched_19 d_Sched_runFirstOf_2 ?_
  refine lv_iload_n hx hb d_Sched_runFirstOf_5 rfl (lv_at hl 1 rfl) ?_
  obtain ⟨j1, ej2, hj3, hn4, hF⟩ := vG_some hF
  refine al_ARdy B hP (by decide) hn4 ej2 hj3 d_Sched_runFirstOf_6 ?_
  obtain ⟨r7, σ5, q6, hF⟩ := vB2_some hF
  refine ed_cvI (As := []) (rest := [.ref (ad (pSched 0))]) B hP hD hS hA (C_Row_removeFirst l D ad ca (8 + j1) σ r7 σ5 (ed_b8 hj3) q6) me_Row_removeFirst mv_Row_removeFirst L_Sched_62 (ed_rc_Row B hP (ed_b8 hj3)) ⟨rfl, rfl⟩ ⟨Nat.le_of_ble_eq_true rfl, Nat.le_of_ble_eq_true rfl⟩ rfl rfl hl.1 (lv_room (Nat.le_of_ble_eq_true rfl)) d_Sched_runFirstOf_7 (fun H locs hP hD hS => ?_)
  obtain ⟨σ8, e9, hF⟩ := vL_some hF
  refine pf_Sched_running B hP hD hS (by decide) e9 L_Sched_23 d_Sched_runFirstOf_10 (fun H locs hP hD hS => ?_)
  refine lv_aload_n hx hb d_Sched_runFirstOf_13 rfl (lv_at hl 0 rfl) ?_
  refine gf_Sched_threads B hP (by decide) L_Sched_11 d_Sched_runFirstOf_14 ?_
  refine lv_aload_n hx hb d_Sched_runFirstOf_17 rfl (lv_at hl 0 rfl) ?_
  refine gf_Sched_running B hP (by decide) L_Sched_23 d_Sched_runFirstOf_18 ?_
  obtain ⟨j10, ej11, hj12, hn13, hF⟩ := vG_some hF
  refine al_AThr B hP (by decide) hn13 ej11 hj12 d_Sched_runFirstOf_21 ?_
  refine lv_iconst (v := 0) hx hb d_Sched_runFirstOf_22 (by decide) ?_
  obtain ⟨σ14, e15, hF⟩ := vL_some hF
  refine pf_Thr_state B hP hD hS hj12 e15 L_Sched_34 d_Sched_runFirstOf_23 (fun H locs hP hD hS => ?_)
  refine lv_aload_n hx hb d_Sched_runFirstOf_26 rfl (lv_at hl 0 rfl) ?_
  refine gf_Sched_running B hP (by decide) L_Sched_23 d_Sched_runFirstOf_27 ?_
  refine lv_aload_n hx hb d_Sched_runFirstOf_30 rfl (lv_at hl 0 rfl) ?_
  refine gf_Sched_lastRan B hP (by decide) L_Sched_27 d_Sched_runFirstOf_31 ?_
  refine lv_icmp_eq (tgt := 55) hx hb d_Sched_runFirstOf_34 (by decide) (fun c16 => ?_) (fun c16 => ?_)
  · have hF := vIt c16 hF
    exact ed_rV B hr hA hP hD hS (Option.some.inj hF) d_Sched_runFirstOf_55
  · have hF := vIf c16 hF
    refine lv_aload_n hx hb d_Sched_runFirstOf_37 rfl (lv_at hl 0 rfl) ?_
    refine lv_aload_n hx hb d_Sched_runFirstOf_38 rfl (lv_at hl 0 rfl) ?_
    refine gf_Sched_running B hP (by decide) L_Sched_23 d_Sched_runFirstOf_39 ?_
    obtain ⟨σ17, e18, hF⟩ := vL_some hF
    refine pf_Sched_lastRan B hP hD hS (by decide) e18 L_Sched_27 d_Sched_runFirstOf_42 (fun H locs hP hD hS => ?_)
    refine lv_aload_n hx hb d_Sched_runFirstOf_45 rfl (lv_at hl 0 rfl) ?_
    refine lv_dup hx hb d_Sched_runFirstOf_46 rfl ?_
    refine gf_Sched_switches B hP (by decide) L_Sched_65 d_Sched_runFirstOf_47 ?_
    refine lv_iconst (v := 1) hx hb d_Sched_runFirstOf_50 (by decide) ?_
    refine lv_iadd hx hb d_Sched_runFirstOf_51 ?_
    obtain ⟨σ19, e20, hF⟩ := vL_some hF
    refine pf_Sched_switches B hP hD hS (by decide) e20 L_Sched_65 d_Sched_runFirstOf_52 (fun H locs hP hD hS => ?_)
    exact ed_rV B hr hA hP hD hS (Option.some.inj hF) d_Sched_runFirstOf_55
set_option maxHeartbeats 4000000 in
set_option maxRecDepth 100000 in
theorem C_Sched_runFirstOf (l : Launch) (D : va_G) (ad : Nat → Nat) (ca : Nat → ClassId) (x1 : Int32) (σ : ed_S) (σ' : ed_S) (hF : F_Sched_runFirstOf x1 σ = some σ') : ed_MV l y_Sched_runFirstOf ws_Sched_runFirstOf rm_Sched_runFirstOf D ca (ed_w ad ca) [.ref (ad (pSched 0)), .int x1] σ σ' := by
  refine ed_metV (cc := prog_6_method_6_code) (own := "ExecutiveDesk$Scheduler") (nL := 2) (ret := none) (by decide) rfl rfl (Nat.le_of_ble_eq_true rfl) ?_
  intro p e s m args below meth c A B hr hA
  exact T_Sched_runFirstOf B hr hA x1 σ  hF
abbrev ws_Sched_look : List Cond := Cond.code y_Sched_look prog_6_method_3_code 3 none :: ed_tb
abbrev rm_Sched_look : Room := { frames := 2, cells := 0, slots := 0, locals := 43 }
def F_Sched_look (σ : ed_S) : Option ed_S := (vB2 (F_Sched_bestPriority  σ) fun r3 σ1 => (if r3 = (-1) then (some σ1) else (if (σ1 5 0 0) = (-1) then (vB1 (F_Sched_runFirstOf r3 σ1) fun σ6 => (some σ6)) else (vG (σ1 5 0 0) 8 fun j8 => (if (σ1 9 j8 0) < r3 then (vL (ed_st σ1 10 j8 0 1) fun σ13 => (vG (σ13 9 j8 0) 8 fun j15 => (vB1 (F_Row_addFirst (8 + j15) (σ13 5 0 0) σ13) fun σ19 => (vB1 (F_Sched_runFirstOf r3 σ19) fun σ21 => (some σ21))))) else (some σ1))))))
set_option maxHeartbeats 4000000 in
set_option maxRecDepth 100000 in
theorem T_Sched_look {σ' : ed_S} (B : ed_B p s m args meth c prog_6_method_3_code "ExecutiveDesk$Scheduler" 3 D ca) (hr : meth.sig.returnType = none) (hA : ∀ q : Nat, s.heap.size ≤ q → A q) : ∀ (σ : ed_S), F_Sched_look   σ = some σ' → ed_G p l e rm_Sched_look s m args below meth c D ca (ed_w ad ca) A (ed_QV D ca (ed_w ad ca) A below args s σ') 3 0 [(0, .ref (ad (pSched 0)))] [] σ := by
  have hx := B.1
  have hb := B.2.1
  intro  σ  hF H locs ls hP hD hS hl
  have hF : (vB2 (F_Sched_bestPriority  σ) fun r3 σ1 => (if r3 = (-1) then (some σ1) else (if (σ1 5 0 0) = (-1) then (vB1 (F_Sched_runFirstOf r3 σ1) fun σ6 => (some σ6)) else (vG (σ1 5 0 0) 8 fun j8 => (if (σ1 9 j8 0) < r3 then (vL (ed_st σ1 10 j8 0 1) fun σ13 => (vG (σ13 9 j8 0) 8 fun j15 => (vB1 (F_Row_addFirst (8 + j15) (σ13 5 0 0) σ13) fun σ19 => (vB1 (F_Sched_runFirstOf r3 σ19) fun σ21 => (some σ21))))) else (some σ1)))))) = some σ' := hF
  refine lv_aload_n hx hb d_Sched_look_0 rfl (lv_at hl 0 rfl) ?_
  obtain ⟨r3, σ1, q2, hF⟩ := vB2_some hF
  refine ed_cvI (As := []) (rest := []) B hP hD hS hA (C_Sched_bestPriority l D ad ca  σ r3 σ1  q2) me_Sched_bestPriority mv_Sched_bestPriority L_Sched_43 (ed_rc_Sched B hP (by decide)) ⟨rfl, rfl⟩ ⟨Nat.le_of_ble_eq_true rfl, Nat.le_of_ble_eq_true rfl⟩ rfl rfl hl.1 (lv_room (Nat.le_of_ble_eq_true rfl)) d_Sched_look_1 (fun H locs hP hD hS => ?_)
  refine lv_istore_n (lv' := [(1, .int r3), (0, .ref (ad (pSched 0)))]) hx hb d_Sched_look_4 rfl hl (by decide) rfl (fun ls hl => ?_)
  refine lv_iload_n hx hb d_Sched_look_5 rfl (lv_at hl 0 rfl) ?_
  refine lv_iconst (v := (-1)) hx hb d_Sched_look_6 (by decide) ?_
  refine lv_icmp_ne (tgt := 11) hx hb d_Sched_look_7 (by decide) (fun c4 => ?_) (fun c4 => ?_)
  · have hF := vIf c4 hF
    refine lv_aload_n hx hb d_Sched_look_11 rfl (lv_at hl 1 rfl) ?_
    refine gf_Sched_running B hP (by decide) L_Sched_23 d_Sched_look_12 ?_
    refine lv_iconst (v := (-1)) hx hb d_Sched_look_15 (by decide) ?_
    refine lv_icmp_eq (tgt := 59) hx hb d_Sched_look_16 (by decide) (fun c5 => ?_) (fun c5 => ?_)
    · have hF := vIt c5 hF
      refine lv_aload_n hx hb d_Sched_look_59 rfl (lv_at hl 1 rfl) ?_
      refine lv_iload_n hx hb d_Sched_look_60 rfl (lv_at hl 0 rfl) ?_
      obtain ⟨σ6, q7, hF⟩ := vB1_some hF
      refine ed_cvV (As := [.int r3]) (rest := []) B hP hD hS hA (C_Sched_runFirstOf l D ad ca r3 σ1 σ6  q7) me_Sched_runFirstOf mv_Sched_runFirstOf L_Sched_50 (ed_rc_Sched B hP (by decide)) ⟨rfl, rfl⟩ ⟨Nat.le_of_ble_eq_true rfl, Nat.le_of_ble_eq_true rfl⟩ rfl rfl hl.1 (lv_room (Nat.le_of_ble_eq_true rfl)) d_Sched_look_61 (fun H locs hP hD hS => ?_)
      exact ed_rV B hr hA hP hD hS (Option.some.inj hF) d_Sched_look_64
    · have hF := vIf c5 hF
      refine lv_aload_n hx hb d_Sched_look_19 rfl (lv_at hl 1 rfl) ?_
      refine gf_Sched_threads B hP (by decide) L_Sched_11 d_Sched_look_20 ?_
      refine lv_aload_n hx hb d_Sched_look_23 rfl (lv_at hl 1 rfl) ?_
      refine gf_Sched_running B hP (by decide) L_Sched_23 d_Sched_look_24 ?_
      obtain ⟨j8, ej9, hj10, hn11, hF⟩ := vG_some hF
      refine al_AThr B hP (by decide) hn11 ej9 hj10 d_Sched_look_27 ?_
      refine lv_astore_n (lv' := [(2, .ref (ad (pThr j8))), (1, .int r3), (0, .ref (ad (pSched 0)))]) hx hb d_Sched_look_28 rfl hl (by decide) rfl (fun ls hl => ?_)
      refine lv_aload_n hx hb d_Sched_look_29 rfl (lv_at hl 0 rfl) ?_
      refine gf_Thr_priority B hP hj10 L_Sched_37 d_Sched_look_30 ?_
      refine lv_iload_n hx hb d_Sched_look_33 rfl (lv_at hl 1 rfl) ?_
      refine lv_icmp_lt (tgt := 38) hx hb d_Sched_look_34 (by decide) (fun c12 => ?_) (fun c12 => ?_)
      · have hF := vIt c12 hF
        refine lv_aload_n hx hb d_Sched_look_38 rfl (lv_at hl 0 rfl) ?_
        refine lv_iconst (v := 1) hx hb d_Sched_look_39 (by decide) ?_
        obtain ⟨σ13, e14, hF⟩ := vL_some hF
        refine pf_Thr_state B hP hD hS hj10 e14 L_Sched_34 d_Sched_look_40 (fun H locs hP hD hS => ?_)
        refine lv_aload_n hx hb d_Sched_look_43 rfl (lv_at hl 2 rfl) ?_
        refine gf_Sched_ready B hP (by decide) L_Sched_19 d_Sched_look_44 ?_
        refine lv_aload_n hx hb d_Sched_look_47 rfl (lv_at hl 0 rfl) ?_
        refine gf_Thr_priority B hP hj10 L_Sched_37 d_Sched_look_48 ?_
        obtain ⟨j15, ej16, hj17, hn18, hF⟩ := vG_some hF
        refine al_ARdy B hP (by decide) hn18 ej16 hj17 d_Sched_look_51 ?_
        refine lv_aload_n hx hb d_Sched_look_52 rfl (lv_at hl 2 rfl) ?_
        refine gf_Sched_running B hP (by decide) L_Sched_23 d_Sched_look_53 ?_
        obtain ⟨σ19, q20, hF⟩ := vB1_some hF
        refine ed_cvV (As := [.int (σ13 5 0 0)]) (rest := []) B hP hD hS hA (C_Row_addFirst l D ad ca (8 + j15) (σ13 5 0 0) σ13 σ19 (ed_b8 hj17) q20) me_Row_addFirst mv_Row_addFirst L_Sched_47 (ed_rc_Row B hP (ed_b8 hj17)) ⟨rfl, rfl⟩ ⟨Nat.le_of_ble_eq_true rfl, Nat.le_of_ble_eq_true rfl⟩ rfl rfl hl.1 (lv_room (Nat.le_of_ble_eq_true rfl)) d_Sched_look_56 (fun H locs hP hD hS => ?_)
        refine lv_aload_n hx hb d_Sched_look_59 rfl (lv_at hl 2 rfl) ?_
        refine lv_iload_n hx hb d_Sched_look_60 rfl (lv_at hl 1 rfl) ?_
        obtain ⟨σ21, q22, hF⟩ := vB1_some hF
        refine ed_cvV (As := [.int r3]) (rest := []) B hP hD hS hA (C_Sched_runFirstOf l D ad ca r3 σ19 σ21  q22) me_Sched_runFirstOf mv_Sched_runFirstOf L_Sched_50 (ed_rc_Sched B hP (by decide)) ⟨rfl, rfl⟩ ⟨Nat.le_of_ble_eq_true rfl, Nat.le_of_ble_eq_true rfl⟩ rfl rfl hl.1 (lv_room (Nat.le_of_ble_eq_true rfl)) d_Sched_look_61 (fun H locs hP hD hS => ?_)
        exact ed_rV B hr hA hP hD hS (Option.some.inj hF) d_Sched_look_64
      · have hF := vIf c12 hF
        exact ed_rV B hr hA hP hD hS (Option.some.inj hF) d_Sched_look_37
  · have hF := vIt c4 hF
    exact ed_rV B hr hA hP hD hS (Option.some.inj hF) d_Sched_look_10
set_option maxHeartbeats 4000000 in
set_option maxRecDepth 100000 in
theorem C_Sched_look (l : Launch) (D : va_G) (ad : Nat → Nat) (ca : Nat → ClassId) (σ : ed_S) (σ' : ed_S) (hF : F_Sched_look  σ = some σ') : ed_MV l y_Sched_look ws_Sched_look rm_Sched_look D ca (ed_w ad ca) [.ref (ad (pSched 0))] σ σ' := by
  refine ed_metV (cc := prog_6_method_3_code) (own := "ExecutiveDesk$Scheduler") (nL := 3) (ret := none) (by decide) rfl rfl (Nat.le_of_ble_eq_true rfl) ?_
  intro p e s m args below meth c A B hr hA
  exact T_Sched_look B hr hA  σ  hF
abbrev ws_Desk_lookWhoRuns : List Cond := Cond.code y_Desk_lookWhoRuns prog_1_method_25_code 1 none :: ed_tb
abbrev rm_Desk_lookWhoRuns : Room := { frames := 3, cells := 0, slots := 0, locals := 65 }
def F_Desk_lookWhoRuns (σ : ed_S) : Option ed_S := (if (σ 4 0 0) = 0 then (vB1 (F_Sched_look  σ) fun σ2 => (some σ2)) else (some σ))
set_option maxHeartbeats 4000000 in
set_option maxRecDepth 100000 in
theorem T_Desk_lookWhoRuns {σ' : ed_S} (B : ed_B p s m args meth c prog_1_method_25_code "ExecutiveDesk" 1 D ca) (hr : meth.sig.returnType = none) (hA : ∀ q : Nat, s.heap.size ≤ q → A q) : ∀ (σ : ed_S), F_Desk_lookWhoRuns   σ = some σ' → ed_G p l e rm_Desk_lookWhoRuns s m args below meth c D ca (ed_w ad ca) A (ed_QV D ca (ed_w ad ca) A below args s σ') 1 0 [(0, .ref (ad (pDesk 0)))] [] σ := by
  have hx := B.1
  have hb := B.2.1
  intro  σ  hF H locs ls hP hD hS hl
  have hF : (if (σ 4 0 0) = 0 then (vB1 (F_Sched_look  σ) fun σ2 => (some σ2)) else (some σ)) = some σ' := hF
  refine lv_aload_n hx hb d_Desk_lookWhoRuns_0 rfl (lv_at hl 0 rfl) ?_
  refine gf_Desk_currentLevel B hP (by decide) L_Desk_163 d_Desk_lookWhoRuns_1 ?_
  refine lv_if_ne (tgt := 14) hx hb d_Desk_lookWhoRuns_4 (by decide) (fun c1 => ?_) (fun c1 => ?_)
  · have hF := vIf c1 hF
    exact ed_rV B hr hA hP hD hS (Option.some.inj hF) d_Desk_lookWhoRuns_14
  · have hF := vIt c1 hF
    refine lv_aload_n hx hb d_Desk_lookWhoRuns_7 rfl (lv_at hl 0 rfl) ?_
    refine gf_Desk_scheduler B hP (by decide) L_Desk_18 d_Desk_lookWhoRuns_8 ?_
    obtain ⟨σ2, q3, hF⟩ := vB1_some hF
    refine ed_cvV (As := []) (rest := []) B hP hD hS hA (C_Sched_look l D ad ca  σ σ2  q3) me_Sched_look mv_Sched_look L_Desk_313 (ed_rc_Sched B hP (by decide)) ⟨rfl, rfl⟩ ⟨Nat.le_of_ble_eq_true rfl, Nat.le_of_ble_eq_true rfl⟩ rfl rfl hl.1 (lv_room (Nat.le_of_ble_eq_true rfl)) d_Desk_lookWhoRuns_11 (fun H locs hP hD hS => ?_)
    exact ed_rV B hr hA hP hD hS (Option.some.inj hF) d_Desk_lookWhoRuns_14
set_option maxHeartbeats 4000000 in
set_option maxRecDepth 100000 in
theorem C_Desk_lookWhoRuns (l : Launch) (D : va_G) (ad : Nat → Nat) (ca : Nat → ClassId) (σ : ed_S) (σ' : ed_S) (hF : F_Desk_lookWhoRuns  σ = some σ') : ed_MV l y_Desk_lookWhoRuns ws_Desk_lookWhoRuns rm_Desk_lookWhoRuns D ca (ed_w ad ca) [.ref (ad (pDesk 0))] σ σ' := by
  refine ed_metV (cc := prog_1_method_25_code) (own := "ExecutiveDesk") (nL := 1) (ret := none) (by decide) rfl rfl (Nat.le_of_ble_eq_true rfl) ?_
  intro p e s m args below meth c A B hr hA
  exact T_Desk_lookWhoRuns B hr hA  σ  hF
abbrev ws_Desk_thread : List Cond := Cond.code y_Desk_thread prog_1_method_3_code 4 (some .int) :: ed_tb
abbrev rm_Desk_thread : Room := { frames := 4, cells := 0, slots := 0, locals := 85 }
def F_Desk_thread (x1 : Int32) (x2 : Int32) (σ : ed_S) : Option (Int32 × ed_S) := (vB2 (F_Desk_isWithin x1 0 ((σ 0 0 0) - 1) σ) fun r3 σ1 => (if r3 = 0 then (some ((-1), σ1)) else (vG x1 4 fun j5 => (vB2 (F_Proc_hasEnded j5 σ1) fun r11 σ9 => (if r11 = 0 then (vB2 (F_Desk_isWithin x2 0 7 σ9) fun r15 σ13 => (if r15 = 0 then (some ((-1), σ13)) else (if (σ13 1 0 0) = 8 then (some ((-2), σ13)) else (vL (ed_st σ13 1 0 0 ((σ13 1 0 0) + 1)) fun σ18 => (vG x1 4 fun j20 => (vL (ed_st σ18 20 j20 0 ((σ18 20 j20 0) + 1)) fun σ24 => (vG x1 4 fun j26 => (vL (ed_st σ24 21 j26 0 ((σ24 21 j26 0) + 1)) fun σ30 => (vG (σ13 1 0 0) 8 fun j32 => (vL (ed_st σ30 8 j32 0 x1) fun σ36 => (vG (σ13 1 0 0) 8 fun j38 => (vL (ed_st σ36 9 j38 0 x2) fun σ42 => (vB1 (F_Sched_makeReady (σ13 1 0 0) σ42) fun σ44 => (vB1 (F_Desk_lookWhoRuns  σ44) fun σ46 => (some ((σ13 1 0 0), σ46)))))))))))))))) else (some ((-1), σ9)))))))
set_option maxHeartbeats 4000000 in
set_option maxRecDepth 100000 in
theorem T_Desk_thread {r : Int32} {σ' : ed_S} (B : ed_B p s m args meth c prog_1_method_3_code "ExecutiveDesk" 4 D ca) (hr : meth.sig.returnType = (some .int)) (hA : ∀ q : Nat, s.heap.size ≤ q → A q) : ∀ (x1 : Int32) (x2 : Int32) (σ : ed_S), F_Desk_thread  x1 x2 σ = some (r, σ') → ed_G p l e rm_Desk_thread s m args below meth c D ca (ed_w ad ca) A (ed_QI D ca (ed_w ad ca) A below args s r σ') 4 0 [(0, .ref (ad (pDesk 0))), (1, .int x1), (2, .int x2)] [] σ := by
  have hx := B.1
  have hb := B.2.1
  intro x1 x2 σ  hF H locs ls hP hD hS hl
  have hF : (vB2 (F_Desk_isWithin x1 0 ((σ 0 0 0) - 1) σ) fun r3 σ1 => (if r3 = 0 then (some ((-1), σ1)) else (vG x1 4 fun j5 => (vB2 (F_Proc_hasEnded j5 σ1) fun r11 σ9 => (if r11 = 0 then (vB2 (F_Desk_isWithin x2 0 7 σ9) fun r15 σ13 => (if r15 = 0 then (some ((-1), σ13)) else (if (σ13 1 0 0) = 8 then (some ((-2), σ13)) else (vL (ed_st σ13 1 0 0 ((σ13 1 0 0) + 1)) fun σ18 => (vG x1 4 fun j20 => (vL (ed_st σ18 20 j20 0 ((σ18 20 j20 0) + 1)) fun σ24 => (vG x1 4 fun j26 => (vL (ed_st σ24 21 j26 0 ((σ24 21 j26 0) + 1)) fun σ30 => (vG (σ13 1 0 0) 8 fun j32 => (vL (ed_st σ30 8 j32 0 x1) fun σ36 => (vG (σ13 1 0 0) 8 fun j38 => (vL (ed_st σ36 9 j38 0 x2) fun σ42 => (vB1 (F_Sched_makeReady (σ13 1 0 0) σ42) fun σ44 => (vB1 (F_Desk_lookWhoRuns  σ44) fun σ46 => (some ((σ13 1 0 0), σ46)))))))))))))))) else (some ((-1), σ9))))))) = some (r, σ') := hF
  refine lv_iload_n hx hb d_Desk_thread_0 rfl (lv_at hl 1 rfl) ?_
  refine lv_iconst (v := 0) hx hb d_Desk_thread_1 (by decide) ?_
  refine lv_aload_n hx hb d_Desk_thread_2 rfl (lv_at hl 0 rfl) ?_
  refine gf_Desk_processCount B hP (by decide) L_Desk_58 d_Desk_thread_3 ?_
  refine lv_iconst (v := 1) hx hb d_Desk_thread_6 (by decide) ?_
  refine lv_isub hx hb d_Desk_thread_7 ?_
  obtain ⟨r3, σ1, q2, hF⟩ := vB2_some hF
  refine ed_csI (As := [.int x1, .int 0, .int ((σ 0 0 0) - 1)]) (rest := []) B hP hD hS hA (C_Desk_isWithin l D ad ca x1 0 ((σ 0 0 0) - 1) σ r3 σ1  q2) me_Desk_isWithin st_Desk_isWithin L_Desk_54 ⟨rfl, rfl⟩ ⟨Nat.le_of_ble_eq_true rfl, Nat.le_of_ble_eq_true rfl⟩ rfl rfl hl.1 (lv_room (Nat.le_of_ble_eq_true rfl)) d_Desk_thread_8 (fun H locs hP hD hS => ?_)
  refine lv_if_eq (tgt := 36) hx hb d_Desk_thread_11 (by decide) (fun c4 => ?_) (fun c4 => ?_)
  · have hF := vIt c4 hF
    refine lv_iconst (v := (-1)) hx hb d_Desk_thread_36 (by decide) ?_
    exact ed_rI B hr hA hP hD hS (vP hF) d_Desk_thread_37
  · have hF := vIf c4 hF
    refine lv_aload_n hx hb d_Desk_thread_14 rfl (lv_at hl 0 rfl) ?_
    refine gf_Desk_processes B hP (by decide) L_Desk_11 d_Desk_thread_15 ?_
    refine lv_iload_n hx hb d_Desk_thread_18 rfl (lv_at hl 1 rfl) ?_
    obtain ⟨j5, ej6, hj7, hn8, hF⟩ := vG_some hF
    refine al_AProc B hP (by decide) hn8 ej6 hj7 d_Desk_thread_19 ?_
    obtain ⟨r11, σ9, q10, hF⟩ := vB2_some hF
    refine ed_cvI (As := []) (rest := []) B hP hD hS hA (C_Proc_hasEnded l D ad ca j5 σ1 r11 σ9 hj7 q10) me_Proc_hasEnded mv_Proc_hasEnded L_Desk_65 (ed_rc_Proc B hP hj7) ⟨rfl, rfl⟩ ⟨Nat.le_of_ble_eq_true rfl, Nat.le_of_ble_eq_true rfl⟩ rfl rfl hl.1 (lv_room (Nat.le_of_ble_eq_true rfl)) d_Desk_thread_20 (fun H locs hP hD hS => ?_)
    refine lv_if_ne (tgt := 36) hx hb d_Desk_thread_23 (by decide) (fun c12 => ?_) (fun c12 => ?_)
    · have hF := vIf c12 hF
      refine lv_iconst (v := (-1)) hx hb d_Desk_thread_36 (by decide) ?_
      exact ed_rI B hr hA hP hD hS (vP hF) d_Desk_thread_37
    · have hF := vIt c12 hF
      refine lv_iload_n hx hb d_Desk_thread_26 rfl (lv_at hl 2 rfl) ?_
      refine lv_iconst (v := 0) hx hb d_Desk_thread_27 (by decide) ?_
      refine lv_bipush (v := 7) hx hb d_Desk_thread_28 (by decide) ?_
      obtain ⟨r15, σ13, q14, hF⟩ := vB2_some hF
      refine ed_csI (As := [.int x2, .int 0, .int 7]) (rest := []) B hP hD hS hA (C_Desk_isWithin l D ad ca x2 0 7 σ9 r15 σ13  q14) me_Desk_isWithin st_Desk_isWithin L_Desk_54 ⟨rfl, rfl⟩ ⟨Nat.le_of_ble_eq_true rfl, Nat.le_of_ble_eq_true rfl⟩ rfl rfl hl.1 (lv_room (Nat.le_of_ble_eq_true rfl)) d_Desk_thread_30 (fun H locs hP hD hS => ?_)
      refine lv_if_ne (tgt := 38) hx hb d_Desk_thread_33 (by decide) (fun c16 => ?_) (fun c16 => ?_)
      · have hF := vIf c16 hF
        refine lv_aload_n hx hb d_Desk_thread_38 rfl (lv_at hl 0 rfl) ?_
        refine gf_Desk_threadCount B hP (by decide) L_Desk_69 d_Desk_thread_39 ?_
        refine lv_bipush (v := 8) hx hb d_Desk_thread_42 (by decide) ?_
        refine lv_icmp_ne (tgt := 50) hx hb d_Desk_thread_44 (by decide) (fun c17 => ?_) (fun c17 => ?_)
        · have hF := vIf c17 hF
          refine lv_aload_n hx hb d_Desk_thread_50 rfl (lv_at hl 0 rfl) ?_
          refine gf_Desk_threadCount B hP (by decide) L_Desk_69 d_Desk_thread_51 ?_
          refine lv_istore_n (lv' := [(3, .int (σ13 1 0 0)), (0, .ref (ad (pDesk 0))), (1, .int x1), (2, .int x2)]) hx hb d_Desk_thread_54 rfl hl (by decide) rfl (fun ls hl => ?_)
          refine lv_aload_n hx hb d_Desk_thread_55 rfl (lv_at hl 1 rfl) ?_
          refine lv_dup hx hb d_Desk_thread_56 rfl ?_
          refine gf_Desk_threadCount B hP (by decide) L_Desk_69 d_Desk_thread_57 ?_
          refine lv_iconst (v := 1) hx hb d_Desk_thread_60 (by decide) ?_
          refine lv_iadd hx hb d_Desk_thread_61 ?_
          obtain ⟨σ18, e19, hF⟩ := vL_some hF
          refine pf_Desk_threadCount B hP hD hS (by decide) e19 L_Desk_69 d_Desk_thread_62 (fun H locs hP hD hS => ?_)
          refine lv_aload_n hx hb d_Desk_thread_65 rfl (lv_at hl 1 rfl) ?_
          refine gf_Desk_processes B hP (by decide) L_Desk_11 d_Desk_thread_66 ?_
          refine lv_iload_n hx hb d_Desk_thread_69 rfl (lv_at hl 2 rfl) ?_
          obtain ⟨j20, ej21, hj22, hn23, hF⟩ := vG_some hF
          refine al_AProc B hP (by decide) hn23 ej21 hj22 d_Desk_thread_70 ?_
          refine lv_dup hx hb d_Desk_thread_71 rfl ?_
          refine gf_Proc_threadsMade B hP hj22 L_Desk_72 d_Desk_thread_72 ?_
          refine lv_iconst (v := 1) hx hb d_Desk_thread_75 (by decide) ?_
          refine lv_iadd hx hb d_Desk_thread_76 ?_
          obtain ⟨σ24, e25, hF⟩ := vL_some hF
          refine pf_Proc_threadsMade B hP hD hS hj22 e25 L_Desk_72 d_Desk_thread_77 (fun H locs hP hD hS => ?_)
          refine lv_aload_n hx hb d_Desk_thread_80 rfl (lv_at hl 1 rfl) ?_
          refine gf_Desk_processes B hP (by decide) L_Desk_11 d_Desk_thread_81 ?_
          refine lv_iload_n hx hb d_Desk_thread_84 rfl (lv_at hl 2 rfl) ?_
          obtain ⟨j26, ej27, hj28, hn29, hF⟩ := vG_some hF
          refine al_AProc B hP (by decide) hn29 ej27 hj28 d_Desk_thread_85 ?_
          refine lv_dup hx hb d_Desk_thread_86 rfl ?_
          refine gf_Proc_threadsAlive B hP hj28 L_Desk_75 d_Desk_thread_87 ?_
          refine lv_iconst (v := 1) hx hb d_Desk_thread_90 (by decide) ?_
          refine lv_iadd hx hb d_Desk_thread_91 ?_
          obtain ⟨σ30, e31, hF⟩ := vL_some hF
          refine pf_Proc_threadsAlive B hP hD hS hj28 e31 L_Desk_75 d_Desk_thread_92 (fun H locs hP hD hS => ?_)
          refine lv_aload_n hx hb d_Desk_thread_95 rfl (lv_at hl 1 rfl) ?_
          refine gf_Desk_threads B hP (by decide) L_Desk_26 d_Desk_thread_96 ?_
          refine lv_iload_n hx hb d_Desk_thread_99 rfl (lv_at hl 0 rfl) ?_
          obtain ⟨j32, ej33, hj34, hn35, hF⟩ := vG_some hF
          refine al_AThr B hP (by decide) hn35 ej33 hj34 d_Desk_thread_100 ?_
          refine lv_iload_n hx hb d_Desk_thread_101 rfl (lv_at hl 2 rfl) ?_
          obtain ⟨σ36, e37, hF⟩ := vL_some hF
          refine pf_Thr_process B hP hD hS hj34 e37 L_Desk_78 d_Desk_thread_102 (fun H locs hP hD hS => ?_)
          refine lv_aload_n hx hb d_Desk_thread_105 rfl (lv_at hl 1 rfl) ?_
          refine gf_Desk_threads B hP (by decide) L_Desk_26 d_Desk_thread_106 ?_
          refine lv_iload_n hx hb d_Desk_thread_109 rfl (lv_at hl 0 rfl) ?_
          obtain ⟨j38, ej39, hj40, hn41, hF⟩ := vG_some hF
          refine al_AThr B hP (by decide) hn41 ej39 hj40 d_Desk_thread_110 ?_
          refine lv_iload_n hx hb d_Desk_thread_111 rfl (lv_at hl 3 rfl) ?_
          obtain ⟨σ42, e43, hF⟩ := vL_some hF
          refine pf_Thr_priority B hP hD hS hj40 e43 L_Desk_83 d_Desk_thread_112 (fun H locs hP hD hS => ?_)
          refine lv_aload_n hx hb d_Desk_thread_115 rfl (lv_at hl 1 rfl) ?_
          refine gf_Desk_scheduler B hP (by decide) L_Desk_18 d_Desk_thread_116 ?_
          refine lv_iload_n hx hb d_Desk_thread_119 rfl (lv_at hl 0 rfl) ?_
          obtain ⟨σ44, q45, hF⟩ := vB1_some hF
          refine ed_cvV (As := [.int (σ13 1 0 0)]) (rest := []) B hP hD hS hA (C_Sched_makeReady l D ad ca (σ13 1 0 0) σ42 σ44  q45) me_Sched_makeReady mv_Sched_makeReady L_Desk_86 (ed_rc_Sched B hP (by decide)) ⟨rfl, rfl⟩ ⟨Nat.le_of_ble_eq_true rfl, Nat.le_of_ble_eq_true rfl⟩ rfl rfl hl.1 (lv_room (Nat.le_of_ble_eq_true rfl)) d_Desk_thread_120 (fun H locs hP hD hS => ?_)
          refine lv_aload_n hx hb d_Desk_thread_123 rfl (lv_at hl 1 rfl) ?_
          obtain ⟨σ46, q47, hF⟩ := vB1_some hF
          refine ed_cvV (As := []) (rest := []) B hP hD hS hA (C_Desk_lookWhoRuns l D ad ca  σ44 σ46  q47) me_Desk_lookWhoRuns mv_Desk_lookWhoRuns L_Desk_89 (ed_rc_Desk B hP (by decide)) ⟨rfl, rfl⟩ ⟨Nat.le_of_ble_eq_true rfl, Nat.le_of_ble_eq_true rfl⟩ rfl rfl hl.1 (lv_room (Nat.le_of_ble_eq_true rfl)) d_Desk_thread_124 (fun H locs hP hD hS => ?_)
          refine lv_iload_n hx hb d_Desk_thread_127 rfl (lv_at hl 0 rfl) ?_
          exact ed_rI B hr hA hP hD hS (vP hF) d_Desk_thread_128
        · have hF := vIt c17 hF
          refine lv_bipush (v := (-2)) hx hb d_Desk_thread_47 (by decide) ?_
          exact ed_rI B hr hA hP hD hS (vP hF) d_Desk_thread_49
      · have hF := vIt c16 hF
        refine lv_iconst (v := (-1)) hx hb d_Desk_thread_36 (by decide) ?_
        exact ed_rI B hr hA hP hD hS (vP hF) d_Desk_thread_37
set_option maxHeartbeats 4000000 in
set_option maxRecDepth 100000 in
theorem C_Desk_thread (l : Launch) (D : va_G) (ad : Nat → Nat) (ca : Nat → ClassId) (x1 : Int32) (x2 : Int32) (σ : ed_S) (r : Int32) (σ' : ed_S) (hF : F_Desk_thread x1 x2 σ = some (r, σ')) : ed_MI l y_Desk_thread ws_Desk_thread rm_Desk_thread D ca (ed_w ad ca) [.ref (ad (pDesk 0)), .int x1, .int x2] σ r σ' := by
  refine ed_metI (cc := prog_1_method_3_code) (own := "ExecutiveDesk") (nL := 4) (ret := (some .int)) (by decide) rfl rfl (Nat.le_of_ble_eq_true rfl) ?_
  intro p e s m args below meth c A B hr hA
  exact T_Desk_thread B hr hA x1 x2 σ  hF
end EDT
