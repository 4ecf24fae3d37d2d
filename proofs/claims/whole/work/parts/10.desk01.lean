section EDT
variable {p : Program} {l : Launch} {e : Env} {s : State} {m : MethodId} {args : Array Value} {below : List Frame} {meth : Method} {c : Code} {D : va_G} {ad : Nat → Nat} {ca : Nat → ClassId} {A : Nat → Prop}
abbrev ws_Desk_mostAtFirst : List Cond := Cond.code y_Desk_mostAtFirst prog_1_method_23_code 1 (some .int) :: ed_tb
abbrev rm_Desk_mostAtFirst : Room := { frames := 0, cells := 0, slots := 0, locals := 0 }
def F_Desk_mostAtFirst (x0 : Int32) (σ : ed_S) : Option (Int32 × ed_S) := (if x0 = 3 then (some (9, σ)) else (if x0 = 4 then (some (0, σ)) else (if x0 = 5 then (some (7, σ)) else (some (1, σ)))))
set_option maxHeartbeats 4000000 in
set_option maxRecDepth 100000 in
theorem T_Desk_mostAtFirst {r : Int32} {σ' : ed_S} (B : ed_B p s m args meth c prog_1_method_23_code "ExecutiveDesk" 1 D ca) (hr : meth.sig.returnType = (some .int)) (hA : ∀ q : Nat, s.heap.size ≤ q → A q) : ∀ (x0 : Int32) (σ : ed_S), F_Desk_mostAtFirst  x0 σ = some (r, σ') → ed_G p l e rm_Desk_mostAtFirst s m args below meth c D ca (ed_w ad ca) A (ed_QI D ca (ed_w ad ca) A below args s r σ') 1 0 [(0, .int x0)] [] σ := by
  have hx := B.1
  have hb := B.2.1
  intro x0 σ  hF H locs ls hP hD hS hl
  have hF : (if x0 = 3 then (some (9, σ)) else (if x0 = 4 then (some (0, σ)) else (if x0 = 5 then (some (7, σ)) else (some (1, σ))))) = some (r, σ') := hF
  refine lv_iload_n hx hb d_Desk_mostAtFirst_0 rfl (lv_at hl 0 rfl) ?_
  rcases Decidable.em (x0 = 3) with c1 | c1
  · have hF := vIt c1 hF
    refine lv_tableIn (off := 27) (tgt := 28) hx hb d_Desk_mostAtFirst_1 (by rw [c1]; decide) (by rw [c1]; decide) (by rw [c1]; rfl) (by decide) ?_
    refine lv_bipush (v := 9) hx hb d_Desk_mostAtFirst_28 (by decide) ?_
    exact ed_rI B hr hA hP hD hS (vP hF) d_Desk_mostAtFirst_30
  have hF := vIf c1 hF
  rcases Decidable.em (x0 = 4) with c2 | c2
  · have hF := vIt c2 hF
    refine lv_tableIn (off := 30) (tgt := 31) hx hb d_Desk_mostAtFirst_1 (by rw [c2]; decide) (by rw [c2]; decide) (by rw [c2]; rfl) (by decide) ?_
    refine lv_iconst (v := 0) hx hb d_Desk_mostAtFirst_31 (by decide) ?_
    exact ed_rI B hr hA hP hD hS (vP hF) d_Desk_mostAtFirst_32
  have hF := vIf c2 hF
  rcases Decidable.em (x0 = 5) with c3 | c3
  · have hF := vIt c3 hF
    refine lv_tableIn (off := 32) (tgt := 33) hx hb d_Desk_mostAtFirst_1 (by rw [c3]; decide) (by rw [c3]; decide) (by rw [c3]; rfl) (by decide) ?_
    refine lv_bipush (v := 7) hx hb d_Desk_mostAtFirst_33 (by decide) ?_
    exact ed_rI B hr hA hP hD hS (vP hF) d_Desk_mostAtFirst_35
  have hF := vIf c3 hF
  refine lv_tableOut (tgt := 36) hx hb d_Desk_mostAtFirst_1 (by have qc1 := lv_neT (a := 3) c1 (by decide); have qc2 := lv_neT (a := 4) c2 (by decide); have qc3 := lv_neT (a := 5) c3 (by decide); omega) (by decide) ?_
  refine lv_iconst (v := 1) hx hb d_Desk_mostAtFirst_36 (by decide) ?_
  exact ed_rI B hr hA hP hD hS (vP hF) d_Desk_mostAtFirst_37
set_option maxHeartbeats 4000000 in
set_option maxRecDepth 100000 in
theorem C_Desk_mostAtFirst (l : Launch) (D : va_G) (ad : Nat → Nat) (ca : Nat → ClassId) (x0 : Int32) (σ : ed_S) (r : Int32) (σ' : ed_S) (hF : F_Desk_mostAtFirst x0 σ = some (r, σ')) : ed_MI l y_Desk_mostAtFirst ws_Desk_mostAtFirst rm_Desk_mostAtFirst D ca (ed_w ad ca) [.int x0] σ r σ' := by
  refine ed_metI (cc := prog_1_method_23_code) (own := "ExecutiveDesk") (nL := 1) (ret := (some .int)) (by decide) rfl rfl (Nat.le_of_ble_eq_true rfl) ?_
  intro p e s m args below meth c A B hr hA
  exact T_Desk_mostAtFirst B hr hA x0 σ  hF
abbrev ws_Obj_currentName : List Cond := Cond.code y_Obj_currentName prog_2_method_4_code 1 (some .int) :: ed_tb
abbrev rm_Obj_currentName : Room := { frames := 0, cells := 0, slots := 0, locals := 0 }
def F_Obj_currentName (i0 : Nat) (σ : ed_S) : Option (Int32 × ed_S) := (if (σ 24 i0 0) ≤ 0 then (some ((-1), σ)) else (some ((σ 23 i0 0), σ)))
set_option maxHeartbeats 4000000 in
set_option maxRecDepth 100000 in
theorem T_Obj_currentName {r : Int32} {σ' : ed_S} (B : ed_B p s m args meth c prog_2_method_4_code "ExecutiveDesk$ObjectState" 1 D ca) (hr : meth.sig.returnType = (some .int)) (hA : ∀ q : Nat, s.heap.size ≤ q → A q) : ∀ (i0 : Nat) (σ : ed_S), i0 < 16 → F_Obj_currentName  i0 σ = some (r, σ') → ed_G p l e rm_Obj_currentName s m args below meth c D ca (ed_w ad ca) A (ed_QI D ca (ed_w ad ca) A below args s r σ') 1 0 [(0, .ref (ad (pObj i0)))] [] σ := by
  have hx := B.1
  have hb := B.2.1
  intro i0 σ h0 hF H locs ls hP hD hS hl
  have hF : (if (σ 24 i0 0) ≤ 0 then (some ((-1), σ)) else (some ((σ 23 i0 0), σ))) = some (r, σ') := hF
  refine lv_aload_n hx hb d_Obj_currentName_0 rfl (lv_at hl 0 rfl) ?_
  refine gf_Obj_handles B hP h0 L_Obj_51 d_Obj_currentName_1 ?_
  refine lv_if_le (tgt := 14) hx hb d_Obj_currentName_4 (by decide) (fun c1 => ?_) (fun c1 => ?_)
  · have hF := vIt c1 hF
    refine lv_iconst (v := (-1)) hx hb d_Obj_currentName_14 (by decide) ?_
    exact ed_rI B hr hA hP hD hS (vP hF) d_Obj_currentName_15
  · have hF := vIf c1 hF
    refine lv_aload_n hx hb d_Obj_currentName_7 rfl (lv_at hl 0 rfl) ?_
    refine gf_Obj_name B hP h0 L_Obj_27 d_Obj_currentName_8 ?_
    refine lv_goto (tgt := 15) hx hb d_Obj_currentName_11 (by decide) ?_
    exact ed_rI B hr hA hP hD hS (vP hF) d_Obj_currentName_15
set_option maxHeartbeats 4000000 in
set_option maxRecDepth 100000 in
theorem C_Obj_currentName (l : Launch) (D : va_G) (ad : Nat → Nat) (ca : Nat → ClassId) (i0 : Nat) (σ : ed_S) (r : Int32) (σ' : ed_S) (h0 : i0 < 16) (hF : F_Obj_currentName i0 σ = some (r, σ')) : ed_MI l y_Obj_currentName ws_Obj_currentName rm_Obj_currentName D ca (ed_w ad ca) [.ref (ad (pObj i0))] σ r σ' := by
  refine ed_metI (cc := prog_2_method_4_code) (own := "ExecutiveDesk$ObjectState") (nL := 1) (ret := (some .int)) (by decide) rfl rfl (Nat.le_of_ble_eq_true rfl) ?_
  intro p e s m args below meth c A B hr hA
  exact T_Obj_currentName B hr hA i0 σ h0 hF
abbrev ws_Desk_objectNamed : List Cond := Cond.code y_Desk_objectNamed prog_1_method_30_code 3 (some .int) :: ed_tb
abbrev rm_Desk_objectNamed : Room := { frames := 1, cells := 0, slots := 0, locals := 20 }
def F_Desk_objectNamed_2 : Nat → Int32 → Int32 → ed_S → Option (Int32 × ed_S)
  | 0, _, _, _ => none
  | n + 1, x1, x2, σ => (if 16 ≤ x2 then (some ((-1), σ)) else (vG x2 16 fun j2 => (vB2 (F_Obj_currentName j2 σ) fun r8 σ6 => (if r8 = x1 then (some (x2, σ6)) else ((F_Desk_objectNamed_2  n) x1 (x2 + 1) σ6)))))
def F_Desk_objectNamed (x1 : Int32) (σ : ed_S) : Option (Int32 × ed_S) := (F_Desk_objectNamed_2  ed_fu x1 0 σ)
set_option maxHeartbeats 4000000 in
set_option maxRecDepth 100000 in
theorem T_Desk_objectNamed_2 {r : Int32} {σ' : ed_S} (B : ed_B p s m args meth c prog_1_method_30_code "ExecutiveDesk" 3 D ca) (hr : meth.sig.returnType = (some .int)) (hA : ∀ q : Nat, s.heap.size ≤ q → A q) : ∀ (n : Nat) (x1 : Int32) (x2 : Int32) (σ : ed_S), F_Desk_objectNamed_2  n x1 x2 σ = some (r, σ') → ed_G p l e rm_Desk_objectNamed s m args below meth c D ca (ed_w ad ca) A (ed_QI D ca (ed_w ad ca) A below args s r σ') 3 2 [(0, .ref (ad (pDesk 0))), (1, .int x1), (2, .int x2)] [] σ := by
  have hx := B.1
  have hb := B.2.1
  intro n
  induction n with
  | zero => intro x1 x2 σ  hF; exact absurd hF (by intro h; cases h)
  | succ n kk2 =>
    intro x1 x2 σ  hF H locs ls hP hD hS hl
    have hF : (if 16 ≤ x2 then (some ((-1), σ)) else (vG x2 16 fun j2 => (vB2 (F_Obj_currentName j2 σ) fun r8 σ6 => (if r8 = x1 then (some (x2, σ6)) else ((F_Desk_objectNamed_2  n) x1 (x2 + 1) σ6))))) = some (r, σ') := hF
    refine lv_iload_n hx hb d_Desk_objectNamed_2 rfl (lv_at hl 2 rfl) ?_
    refine lv_bipush (v := 16) hx hb d_Desk_objectNamed_3 (by decide) ?_
    refine lv_icmp_ge (tgt := 29) hx hb d_Desk_objectNamed_5 (by decide) (fun c1 => ?_) (fun c1 => ?_)
    · have hF := vIt c1 hF
      refine lv_iconst (v := (-1)) hx hb d_Desk_objectNamed_29 (by decide) ?_
      exact ed_rI B hr hA hP hD hS (vP hF) d_Desk_objectNamed_30
    · have hF := vIf c1 hF
      refine lv_aload_n hx hb d_Desk_objectNamed_8 rfl (lv_at hl 0 rfl) ?_
      refine gf_Desk_objects B hP (by decide) L_Desk_29 d_Desk_objectNamed_9 ?_
      refine lv_iload_n hx hb d_Desk_objectNamed_12 rfl (lv_at hl 2 rfl) ?_
      obtain ⟨j2, ej3, hj4, hn5, hF⟩ := vG_some hF
      refine al_AObj B hP (by decide) hn5 ej3 hj4 d_Desk_objectNamed_13 ?_
      obtain ⟨r8, σ6, q7, hF⟩ := vB2_some hF
      refine ed_cvI (As := []) (rest := []) B hP hD hS hA (C_Obj_currentName l D ad ca j2 σ r8 σ6 hj4 q7) me_Obj_currentName mv_Obj_currentName L_Desk_267 (ed_rc_Obj B hP hj4) ⟨rfl, rfl⟩ ⟨Nat.le_of_ble_eq_true rfl, Nat.le_of_ble_eq_true rfl⟩ rfl rfl hl.1 (lv_room (Nat.le_of_ble_eq_true rfl)) d_Desk_objectNamed_14 (fun H locs hP hD hS => ?_)
      refine lv_iload_n hx hb d_Desk_objectNamed_17 rfl (lv_at hl 1 rfl) ?_
      refine lv_icmp_ne (tgt := 23) hx hb d_Desk_objectNamed_18 (by decide) (fun c9 => ?_) (fun c9 => ?_)
      · have hF := vIf c9 hF
        refine lv_iinc (v := (x2 + 1)) (lv' := [(2, .int (x2 + 1)), (0, .ref (ad (pDesk 0))), (1, .int x1)]) hx hb d_Desk_objectNamed_23 hl (k := 2) rfl rfl (by decide) rfl (fun ls hl => ?_)
        refine lv_goto (tgt := 2) hx hb d_Desk_objectNamed_26 (by decide) ?_
        exact kk2 x1 (x2 + 1) σ6  hF _ _ _ hP hD hS (lv_sub hl [1, 2, 0] rfl)
      · have hF := vIt c9 hF
        refine lv_iload_n hx hb d_Desk_objectNamed_21 rfl (lv_at hl 2 rfl) ?_
        exact ed_rI B hr hA hP hD hS (vP hF) d_Desk_objectNamed_22
set_option maxHeartbeats 4000000 in
set_option maxRecDepth 100000 in
theorem T_Desk_objectNamed {r : Int32} {σ' : ed_S} (B : ed_B p s m args meth c prog_1_method_30_code "ExecutiveDesk" 3 D ca) (hr : meth.sig.returnType = (some .int)) (hA : ∀ q : Nat, s.heap.size ≤ q → A q) : ∀ (x1 : Int32) (σ : ed_S), F_Desk_objectNamed  x1 σ = some (r, σ') → ed_G p l e rm_Desk_objectNamed s m args below meth c D ca (ed_w ad ca) A (ed_QI D ca (ed_w ad ca) A below args s r σ') 3 0 [(0, .ref (ad (pDesk 0))), (1, .int x1)] [] σ := by
  have hx := B.1
  have hb := B.2.1
  intro x1 σ  hF H locs ls hP hD hS hl
  have hF : (F_Desk_objectNamed_2  ed_fu x1 0 σ) = some (r, σ') := hF
  refine lv_iconst (v := 0) hx hb d_Desk_objectNamed_0 (by decide) ?_
  refine lv_istore_n (lv' := [(2, .int 0), (0, .ref (ad (pDesk 0))), (1, .int x1)]) hx hb d_Desk_objectNamed_1 rfl hl (by decide) rfl (fun ls hl => ?_)
  exact T_Desk_objectNamed_2 B hr hA  ed_fu x1 0 σ  hF _ _ _ hP hD hS (lv_sub hl [1, 2, 0] rfl)
set_option maxHeartbeats 4000000 in
set_option maxRecDepth 100000 in
theorem C_Desk_objectNamed (l : Launch) (D : va_G) (ad : Nat → Nat) (ca : Nat → ClassId) (x1 : Int32) (σ : ed_S) (r : Int32) (σ' : ed_S) (hF : F_Desk_objectNamed x1 σ = some (r, σ')) : ed_MI l y_Desk_objectNamed ws_Desk_objectNamed rm_Desk_objectNamed D ca (ed_w ad ca) [.ref (ad (pDesk 0)), .int x1] σ r σ' := by
  refine ed_metI (cc := prog_1_method_30_code) (own := "ExecutiveDesk") (nL := 3) (ret := (some .int)) (by decide) rfl rfl (Nat.le_of_ble_eq_true rfl) ?_
  intro p e s m args below meth c A B hr hA
  exact T_Desk_objectNamed B hr hA x1 σ  hF
abbrev ws_Desk_processOfRunning : List Cond := Cond.code y_Desk_processOfRunning prog_1_method_26_code 1 (some (.object "ExecutiveDesk$ProcessState")) :: ed_tb
abbrev rm_Desk_processOfRunning : Room := { frames := 0, cells := 0, slots := 0, locals := 0 }
def F_Desk_processOfRunning (σ : ed_S) : Option (Nat × ed_S) := (vG (σ 5 0 0) 8 fun j1 => (vG (σ 8 j1 0) 4 fun j5 => (some (j5, σ))))
set_option maxHeartbeats 4000000 in
set_option maxRecDepth 100000 in
theorem T_Desk_processOfRunning {r : Nat} {σ' : ed_S} (B : ed_B p s m args meth c prog_1_method_26_code "ExecutiveDesk" 1 D ca) (hr : meth.sig.returnType = (some (.object "ExecutiveDesk$ProcessState"))) (hA : ∀ q : Nat, s.heap.size ≤ q → A q) : ∀ (σ : ed_S), F_Desk_processOfRunning   σ = some (r, σ') → ed_G p l e rm_Desk_processOfRunning s m args below meth c D ca (ed_w ad ca) A (ed_QR (fun i => ad (pProc i)) D ca (ed_w ad ca) A below args s r σ') 1 0 [(0, .ref (ad (pDesk 0)))] [] σ := by
  have hx := B.1
  have hb := B.2.1
  intro  σ  hF H locs ls hP hD hS hl
  have hF : (vG (σ 5 0 0) 8 fun j1 => (vG (σ 8 j1 0) 4 fun j5 => (some (j5, σ)))) = some (r, σ') := hF
  refine lv_aload_n hx hb d_Desk_processOfRunning_0 rfl (lv_at hl 0 rfl) ?_
  refine gf_Desk_processes B hP (by decide) L_Desk_11 d_Desk_processOfRunning_1 ?_
  refine lv_aload_n hx hb d_Desk_processOfRunning_4 rfl (lv_at hl 0 rfl) ?_
  refine gf_Desk_threads B hP (by decide) L_Desk_26 d_Desk_processOfRunning_5 ?_
  refine lv_aload_n hx hb d_Desk_processOfRunning_8 rfl (lv_at hl 0 rfl) ?_
  refine gf_Desk_scheduler B hP (by decide) L_Desk_18 d_Desk_processOfRunning_9 ?_
  refine gf_Sched_running B hP (by decide) L_Desk_92 d_Desk_processOfRunning_12 ?_
  obtain ⟨j1, ej2, hj3, hn4, hF⟩ := vG_some hF
  refine al_AThr B hP (by decide) hn4 ej2 hj3 d_Desk_processOfRunning_15 ?_
  refine gf_Thr_process B hP hj3 L_Desk_78 d_Desk_processOfRunning_16 ?_
  obtain ⟨j5, ej6, hj7, hn8, hF⟩ := vG_some hF
  refine al_AProc B hP (by decide) hn8 ej6 hj7 d_Desk_processOfRunning_19 ?_
  exact ed_rR B hr hA hP hD hS (vP hF) d_Desk_processOfRunning_20
set_option maxHeartbeats 4000000 in
set_option maxRecDepth 100000 in
theorem C_Desk_processOfRunning (l : Launch) (D : va_G) (ad : Nat → Nat) (ca : Nat → ClassId) (σ : ed_S) (r : Nat) (σ' : ed_S) (hF : F_Desk_processOfRunning  σ = some (r, σ')) : ed_MR (fun i => ad (pProc i)) l y_Desk_processOfRunning ws_Desk_processOfRunning rm_Desk_processOfRunning D ca (ed_w ad ca) [.ref (ad (pDesk 0))] σ r σ' := by
  refine ed_metR (cc := prog_1_method_26_code) (own := "ExecutiveDesk") (nL := 1) (ret := (some (.object "ExecutiveDesk$ProcessState"))) (by decide) rfl rfl (Nat.le_of_ble_eq_true rfl) ?_
  intro p e s m args below meth c A B hr hA
  exact T_Desk_processOfRunning B hr hA  σ  hF
abbrev ws_Proc_freeHandle : List Cond := Cond.code y_Proc_freeHandle prog_3_method_6_code 2 (some .int) :: ed_tb
abbrev rm_Proc_freeHandle : Room := { frames := 0, cells := 0, slots := 0, locals := 0 }
def F_Proc_freeHandle_2 : Nat → Nat → Int32 → ed_S → Option (Int32 × ed_S)
  | 0, _, _, _ => none
  | n + 1, i0, x1, σ => (if 8 ≤ x1 then (some ((-1), σ)) else (vG x1 8 fun j2 => (if (σ 41 i0 j2) = (-1) then (some (x1, σ)) else ((F_Proc_freeHandle_2  n) i0 (x1 + 1) σ))))
def F_Proc_freeHandle (i0 : Nat) (σ : ed_S) : Option (Int32 × ed_S) := (F_Proc_freeHandle_2  ed_fu i0 0 σ)
set_option maxHeartbeats 4000000 in
set_option maxRecDepth 100000 in
theorem T_Proc_freeHandle_2 {r : Int32} {σ' : ed_S} (B : ed_B p s m args meth c prog_3_method_6_code "ExecutiveDesk$ProcessState" 2 D ca) (hr : meth.sig.returnType = (some .int)) (hA : ∀ q : Nat, s.heap.size ≤ q → A q) : ∀ (n : Nat) (i0 : Nat) (x1 : Int32) (σ : ed_S), i0 < 4 → F_Proc_freeHandle_2  n i0 x1 σ = some (r, σ') → ed_G p l e rm_Proc_freeHandle s m args below meth c D ca (ed_w ad ca) A (ed_QI D ca (ed_w ad ca) A below args s r σ') 2 2 [(0, .ref (ad (pProc i0))), (1, .int x1)] [] σ := by
  have hx := B.1
  have hb := B.2.1
  intro n
  induction n with
  | zero => intro i0 x1 σ h0 hF; exact absurd hF (by intro h; cases h)
  | succ n kk2 =>
    intro i0 x1 σ h0 hF H locs ls hP hD hS hl
    have hF : (if 8 ≤ x1 then (some ((-1), σ)) else (vG x1 8 fun j2 => (if (σ 41 i0 j2) = (-1) then (some (x1, σ)) else ((F_Proc_freeHandle_2  n) i0 (x1 + 1) σ)))) = some (r, σ') := hF
    refine lv_iload_n hx hb d_Proc_freeHandle_2 rfl (lv_at hl 1 rfl) ?_
    refine lv_bipush (v := 8) hx hb d_Proc_freeHandle_3 (by decide) ?_
    refine lv_icmp_ge (tgt := 26) hx hb d_Proc_freeHandle_5 (by decide) (fun c1 => ?_) (fun c1 => ?_)
    · have hF := vIt c1 hF
      refine lv_iconst (v := (-1)) hx hb d_Proc_freeHandle_26 (by decide) ?_
      exact ed_rI B hr hA hP hD hS (vP hF) d_Proc_freeHandle_27
    · have hF := vIf c1 hF
      refine lv_aload_n hx hb d_Proc_freeHandle_8 rfl (lv_at hl 0 rfl) ?_
      refine gf_Proc_handleObjects B hP h0 L_Proc_9 d_Proc_freeHandle_9 ?_
      refine lv_iload_n hx hb d_Proc_freeHandle_12 rfl (lv_at hl 1 rfl) ?_
      obtain ⟨j2, ej3, hj4, hn5, hF⟩ := vG_some hF
      refine il_PHo B hP h0 hn5 ej3 d_Proc_freeHandle_13 ?_
      refine lv_iconst (v := (-1)) hx hb d_Proc_freeHandle_14 (by decide) ?_
      refine lv_icmp_ne (tgt := 20) hx hb d_Proc_freeHandle_15 (by decide) (fun c6 => ?_) (fun c6 => ?_)
      · have hF := vIf c6 hF
        refine lv_iinc (v := (x1 + 1)) (lv' := [(1, .int (x1 + 1)), (0, .ref (ad (pProc i0)))]) hx hb d_Proc_freeHandle_20 hl (k := 1) rfl rfl (by decide) rfl (fun ls hl => ?_)
        refine lv_goto (tgt := 2) hx hb d_Proc_freeHandle_23 (by decide) ?_
        exact kk2 i0 (x1 + 1) σ h0 hF _ _ _ hP hD hS (lv_sub hl [1, 0] rfl)
      · have hF := vIt c6 hF
        refine lv_iload_n hx hb d_Proc_freeHandle_18 rfl (lv_at hl 1 rfl) ?_
        exact ed_rI B hr hA hP hD hS (vP hF) d_Proc_freeHandle_19
set_option maxHeartbeats 4000000 in
set_option maxRecDepth 100000 in
theorem T_Proc_freeHandle {r : Int32} {σ' : ed_S} (B : ed_B p s m args meth c prog_3_method_6_code "ExecutiveDesk$ProcessState" 2 D ca) (hr : meth.sig.returnType = (some .int)) (hA : ∀ q : Nat, s.heap.size ≤ q → A q) : ∀ (i0 : Nat) (σ : ed_S), i0 < 4 → F_Proc_freeHandle  i0 σ = some (r, σ') → ed_G p l e rm_Proc_freeHandle s m args below meth c D ca (ed_w ad ca) A (ed_QI D ca (ed_w ad ca) A below args s r σ') 2 0 [(0, .ref (ad (pProc i0)))] [] σ := by
  have hx := B.1
  have hb := B.2.1
  intro i0 σ h0 hF H locs ls hP hD hS hl
  have hF : (F_Proc_freeHandle_2  ed_fu i0 0 σ) = some (r, σ') := hF
  refine lv_iconst (v := 0) hx hb d_Proc_freeHandle_0 (by decide) ?_
  refine lv_istore_n (lv' := [(1, .int 0), (0, .ref (ad (pProc i0)))]) hx hb d_Proc_freeHandle_1 rfl hl (by decide) rfl (fun ls hl => ?_)
  exact T_Proc_freeHandle_2 B hr hA  ed_fu i0 0 σ h0 hF _ _ _ hP hD hS (lv_sub hl [1, 0] rfl)
set_option maxHeartbeats 4000000 in
set_option maxRecDepth 100000 in
theorem C_Proc_freeHandle (l : Launch) (D : va_G) (ad : Nat → Nat) (ca : Nat → ClassId) (i0 : Nat) (σ : ed_S) (r : Int32) (σ' : ed_S) (h0 : i0 < 4) (hF : F_Proc_freeHandle i0 σ = some (r, σ')) : ed_MI l y_Proc_freeHandle ws_Proc_freeHandle rm_Proc_freeHandle D ca (ed_w ad ca) [.ref (ad (pProc i0))] σ r σ' := by
  refine ed_metI (cc := prog_3_method_6_code) (own := "ExecutiveDesk$ProcessState") (nL := 2) (ret := (some .int)) (by decide) rfl rfl (Nat.le_of_ble_eq_true rfl) ?_
  intro p e s m args below meth c A B hr hA
  exact T_Proc_freeHandle B hr hA i0 σ h0 hF
abbrev ws_Obj_isThere : List Cond := Cond.code y_Obj_isThere prog_2_method_3_code 1 (some .boolean) :: ed_tb
abbrev rm_Obj_isThere : Room := { frames := 0, cells := 0, slots := 0, locals := 0 }
def F_Obj_isThere (i0 : Nat) (σ : ed_S) : Option (Int32 × ed_S) := (if 0 < (σ 24 i0 0) then (some (1, σ)) else (if (σ 25 i0 0) ≤ 0 then (some (0, σ)) else (some (1, σ))))
set_option maxHeartbeats 4000000 in
set_option maxRecDepth 100000 in
theorem T_Obj_isThere {r : Int32} {σ' : ed_S} (B : ed_B p s m args meth c prog_2_method_3_code "ExecutiveDesk$ObjectState" 1 D ca) (hr : meth.sig.returnType = (some .boolean)) (hA : ∀ q : Nat, s.heap.size ≤ q → A q) : ∀ (i0 : Nat) (σ : ed_S), i0 < 16 → F_Obj_isThere  i0 σ = some (r, σ') → ed_G p l e rm_Obj_isThere s m args below meth c D ca (ed_w ad ca) A (ed_QI D ca (ed_w ad ca) A below args s r σ') 1 0 [(0, .ref (ad (pObj i0)))] [] σ := by
  have hx := B.1
  have hb := B.2.1
  intro i0 σ h0 hF H locs ls hP hD hS hl
  have hF : (if 0 < (σ 24 i0 0) then (some (1, σ)) else (if (σ 25 i0 0) ≤ 0 then (some (0, σ)) else (some (1, σ)))) = some (r, σ') := hF
  refine lv_aload_n hx hb d_Obj_isThere_0 rfl (lv_at hl 0 rfl) ?_
  refine gf_Obj_handles B hP h0 L_Obj_51 d_Obj_isThere_1 ?_
  refine lv_if_gt (tgt := 14) hx hb d_Obj_isThere_4 (by decide) (fun c1 => ?_) (fun c1 => ?_)
  · have hF := vIt c1 hF
    refine lv_iconst (v := 1) hx hb d_Obj_isThere_14 (by decide) ?_
    refine lv_goto (tgt := 19) hx hb d_Obj_isThere_15 (by decide) ?_
    exact ed_rZ B hr hA hP hD hS (by decide) (vP hF) d_Obj_isThere_19
  · have hF := vIf c1 hF
    refine lv_aload_n hx hb d_Obj_isThere_7 rfl (lv_at hl 0 rfl) ?_
    refine gf_Obj_pointers B hP h0 L_Obj_54 d_Obj_isThere_8 ?_
    refine lv_if_le (tgt := 18) hx hb d_Obj_isThere_11 (by decide) (fun c2 => ?_) (fun c2 => ?_)
    · have hF := vIt c2 hF
      refine lv_iconst (v := 0) hx hb d_Obj_isThere_18 (by decide) ?_
      exact ed_rZ B hr hA hP hD hS (by decide) (vP hF) d_Obj_isThere_19
    · have hF := vIf c2 hF
      refine lv_iconst (v := 1) hx hb d_Obj_isThere_14 (by decide) ?_
      refine lv_goto (tgt := 19) hx hb d_Obj_isThere_15 (by decide) ?_
      exact ed_rZ B hr hA hP hD hS (by decide) (vP hF) d_Obj_isThere_19
set_option maxHeartbeats 4000000 in
set_option maxRecDepth 100000 in
theorem C_Obj_isThere (l : Launch) (D : va_G) (ad : Nat → Nat) (ca : Nat → ClassId) (i0 : Nat) (σ : ed_S) (r : Int32) (σ' : ed_S) (h0 : i0 < 16) (hF : F_Obj_isThere i0 σ = some (r, σ')) : ed_MI l y_Obj_isThere ws_Obj_isThere rm_Obj_isThere D ca (ed_w ad ca) [.ref (ad (pObj i0))] σ r σ' := by
  refine ed_metI (cc := prog_2_method_3_code) (own := "ExecutiveDesk$ObjectState") (nL := 1) (ret := (some .boolean)) (by decide) rfl rfl (Nat.le_of_ble_eq_true rfl) ?_
  intro p e s m args below meth c A B hr hA
  exact T_Obj_isThere B hr hA i0 σ h0 hF
abbrev ws_Desk_freeObject : List Cond := Cond.code y_Desk_freeObject prog_1_method_31_code 2 (some .int) :: ed_tb
abbrev rm_Desk_freeObject : Room := { frames := 1, cells := 0, slots := 0, locals := 20 }
def F_Desk_freeObject_2 : Nat → Int32 → ed_S → Option (Int32 × ed_S)
  | 0, _, _ => none
  | n + 1, x1, σ => (if 16 ≤ x1 then (some ((-1), σ)) else (vG x1 16 fun j2 => (vB2 (F_Obj_isThere j2 σ) fun r8 σ6 => (if r8 = 0 then (some (x1, σ6)) else ((F_Desk_freeObject_2  n) (x1 + 1) σ6)))))
def F_Desk_freeObject (σ : ed_S) : Option (Int32 × ed_S) := (F_Desk_freeObject_2  ed_fu 0 σ)
set_option maxHeartbeats 4000000 in
set_option maxRecDepth 100000 in
theorem T_Desk_freeObject_2 {r : Int32} {σ' : ed_S} (B : ed_B p s m args meth c prog_1_method_31_code "ExecutiveDesk" 2 D ca) (hr : meth.sig.returnType = (some .int)) (hA : ∀ q : Nat, s.heap.size ≤ q → A q) : ∀ (n : Nat) (x1 : Int32) (σ : ed_S), F_Desk_freeObject_2  n x1 σ = some (r, σ') → ed_G p l e rm_Desk_freeObject s m args below meth c D ca (ed_w ad ca) A (ed_QI D ca (ed_w ad ca) A below args s r σ') 2 2 [(0, .ref (ad (pDesk 0))), (1, .int x1)] [] σ := by
  have hx := B.1
  have hb := B.2.1
  intro n
  induction n with
  | zero => intro x1 σ  hF; exact absurd hF (by intro h; cases h)
  | succ n kk2 =>
    intro x1 σ  hF H locs ls hP hD hS hl
    have hF : (if 16 ≤ x1 then (some ((-1), σ)) else (vG x1 16 fun j2 => (vB2 (F_Obj_isThere j2 σ) fun r8 σ6 => (if r8 = 0 then (some (x1, σ6)) else ((F_Desk_freeObject_2  n) (x1 + 1) σ6))))) = some (r, σ') := hF
    refine lv_iload_n hx hb d_Desk_freeObject_2 rfl (lv_at hl 1 rfl) ?_
    refine lv_bipush (v := 16) hx hb d_Desk_freeObject_3 (by decide) ?_
    refine lv_icmp_ge (tgt := 28) hx hb d_Desk_freeObject_5 (by decide) (fun c1 => ?_) (fun c1 => ?_)
    · have hF := vIt c1 hF
      refine lv_iconst (v := (-1)) hx hb d_Desk_freeObject_28 (by decide) ?_
      exact ed_rI B hr hA hP hD hS (vP hF) d_Desk_freeObject_29
    · have hF := vIf c1 hF
      refine lv_aload_n hx hb d_Desk_freeObject_8 rfl (lv_at hl 0 rfl) ?_
      refine gf_Desk_objects B hP (by decide) L_Desk_29 d_Desk_freeObject_9 ?_
      refine lv_iload_n hx hb d_Desk_freeObject_12 rfl (lv_at hl 1 rfl) ?_
      obtain ⟨j2, ej3, hj4, hn5, hF⟩ := vG_some hF
      refine al_AObj B hP (by decide) hn5 ej3 hj4 d_Desk_freeObject_13 ?_
      obtain ⟨r8, σ6, q7, hF⟩ := vB2_some hF
      refine ed_cvI (As := []) (rest := []) B hP hD hS hA (C_Obj_isThere l D ad ca j2 σ r8 σ6 hj4 q7) me_Obj_isThere mv_Obj_isThere L_Desk_316 (ed_rc_Obj B hP hj4) ⟨rfl, rfl⟩ ⟨Nat.le_of_ble_eq_true rfl, Nat.le_of_ble_eq_true rfl⟩ rfl rfl hl.1 (lv_room (Nat.le_of_ble_eq_true rfl)) d_Desk_freeObject_14 (fun H locs hP hD hS => ?_)
      refine lv_if_ne (tgt := 22) hx hb d_Desk_freeObject_17 (by decide) (fun c9 => ?_) (fun c9 => ?_)
      · have hF := vIf c9 hF
        refine lv_iinc (v := (x1 + 1)) (lv' := [(1, .int (x1 + 1)), (0, .ref (ad (pDesk 0)))]) hx hb d_Desk_freeObject_22 hl (k := 1) rfl rfl (by decide) rfl (fun ls hl => ?_)
        refine lv_goto (tgt := 2) hx hb d_Desk_freeObject_25 (by decide) ?_
        exact kk2 (x1 + 1) σ6  hF _ _ _ hP hD hS (lv_sub hl [1, 0] rfl)
      · have hF := vIt c9 hF
        refine lv_iload_n hx hb d_Desk_freeObject_20 rfl (lv_at hl 1 rfl) ?_
        exact ed_rI B hr hA hP hD hS (vP hF) d_Desk_freeObject_21
set_option maxHeartbeats 4000000 in
set_option maxRecDepth 100000 in
theorem T_Desk_freeObject {r : Int32} {σ' : ed_S} (B : ed_B p s m args meth c prog_1_method_31_code "ExecutiveDesk" 2 D ca) (hr : meth.sig.returnType = (some .int)) (hA : ∀ q : Nat, s.heap.size ≤ q → A q) : ∀ (σ : ed_S), F_Desk_freeObject   σ = some (r, σ') → ed_G p l e rm_Desk_freeObject s m args below meth c D ca (ed_w ad ca) A (ed_QI D ca (ed_w ad ca) A below args s r σ') 2 0 [(0, .ref (ad (pDesk 0)))] [] σ := by
  have hx := B.1
  have hb := B.2.1
  intro  σ  hF H locs ls hP hD hS hl
  have hF : (F_Desk_freeObject_2  ed_fu 0 σ) = some (r, σ') := hF
  refine lv_iconst (v := 0) hx hb d_Desk_freeObject_0 (by decide) ?_
  refine lv_istore_n (lv' := [(1, .int 0), (0, .ref (ad (pDesk 0)))]) hx hb d_Desk_freeObject_1 rfl hl (by decide) rfl (fun ls hl => ?_)
  exact T_Desk_freeObject_2 B hr hA  ed_fu 0 σ  hF _ _ _ hP hD hS (lv_sub hl [1, 0] rfl)
set_option maxHeartbeats 4000000 in
set_option maxRecDepth 100000 in
theorem C_Desk_freeObject (l : Launch) (D : va_G) (ad : Nat → Nat) (ca : Nat → ClassId) (σ : ed_S) (r : Int32) (σ' : ed_S) (hF : F_Desk_freeObject  σ = some (r, σ')) : ed_MI l y_Desk_freeObject ws_Desk_freeObject rm_Desk_freeObject D ca (ed_w ad ca) [.ref (ad (pDesk 0))] σ r σ' := by
  refine ed_metI (cc := prog_1_method_31_code) (own := "ExecutiveDesk") (nL := 2) (ret := (some .int)) (by decide) rfl rfl (Nat.le_of_ble_eq_true rfl) ?_
  intro p e s m args below meth c A B hr hA
  exact T_Desk_freeObject B hr hA  σ  hF
abbrev ws_Obj_begin : List Cond := Cond.code y_Obj_begin prog_2_method_2_code 4 none :: ed_tb
abbrev rm_Obj_begin : Room := { frames := 0, cells := 0, slots := 0, locals := 0 }
def F_Obj_begin (i0 : Nat) (x1 : Int32) (x2 : Int32) (x3 : Int32) (σ : ed_S) : Option ed_S := (vL (ed_st σ 22 i0 0 x1) fun σ1 => (vL (ed_st σ1 23 i0 0 x3) fun σ3 => (vL (ed_st σ3 26 i0 0 x2) fun σ5 => (vL (ed_st σ5 27 i0 0 (-1)) fun σ7 => (vL (ed_st σ7 28 i0 0 0) fun σ9 => (vL (ed_st σ9 29 i0 0 (-1)) fun σ11 => (vL (ed_st σ11 30 i0 0 0) fun σ13 => (vL (ed_st σ13 18 (16 + i0) 0 0) fun σ15 => (some σ15)))))))))
set_option maxHeartbeats 4000000 in
set_option maxRecDepth 100000 in
theorem T_Obj_begin {σ' : ed_S} (B : ed_B p s m args meth c prog_2_method_2_code "ExecutiveDesk$ObjectState" 4 D ca) (hr : meth.sig.returnType = none) (hA : ∀ q : Nat, s.heap.size ≤ q → A q) : ∀ (i0 : Nat) (x1 : Int32) (x2 : Int32) (x3 : Int32) (σ : ed_S), i0 < 16 → F_Obj_begin  i0 x1 x2 x3 σ = some σ' → ed_G p l e rm_Obj_begin s m args below meth c D ca (ed_w ad ca) A (ed_QV D ca (ed_w ad ca) A below args s σ') 4 0 [(0, .ref (ad (pObj i0))), (1, .int x1), (2, .int x2), (3, .int x3)] [] σ := by
  have hx := B.1
  have hb := B.2.1
  intro i0 x1 x2 x3 σ h0 hF H locs ls hP hD hS hl
  have hF : (vL (ed_st σ 22 i0 0 x1) fun σ1 => (vL (ed_st σ1 23 i0 0 x3) fun σ3 => (vL (ed_st σ3 26 i0 0 x2) fun σ5 => (vL (ed_st σ5 27 i0 0 (-1)) fun σ7 => (vL (ed_st σ7 28 i0 0 0) fun σ9 => (vL (ed_st σ9 29 i0 0 (-1)) fun σ11 => (vL (ed_st σ11 30 i0 0 0) fun σ13 => (vL (ed_st σ13 18 (16 + i0) 0 0) fun σ15 => (some σ15))))))))) = some σ' := hF
  refine lv_aload_n hx hb d_Obj_begin_0 rfl (lv_at hl 0 rfl) ?_
  refine lv_iload_n hx hb d_Obj_begin_1 rfl (lv_at hl 1 rfl) ?_
  obtain ⟨σ1, e2, hF⟩ := vL_some hF
  refine pf_Obj_type B hP hD hS h0 e2 L_Obj_37 d_Obj_begin_2 (fun H locs hP hD hS => ?_)
  refine lv_aload_n hx hb d_Obj_begin_5 rfl (lv_at hl 0 rfl) ?_
  refine lv_iload_n hx hb d_Obj_begin_6 rfl (lv_at hl 3 rfl) ?_
  obtain ⟨σ3, e4, hF⟩ := vL_some hF
  refine pf_Obj_name B hP hD hS h0 e4 L_Obj_27 d_Obj_begin_7 (fun H locs hP hD hS => ?_)
  refine lv_aload_n hx hb d_Obj_begin_10 rfl (lv_at hl 0 rfl) ?_
  refine lv_iload_n hx hb d_Obj_begin_11 rfl (lv_at hl 2 rfl) ?_
  obtain ⟨σ5, e6, hF⟩ := vL_some hF
  refine pf_Obj_value B hP hD hS h0 e6 L_Obj_40 d_Obj_begin_12 (fun H locs hP hD hS => ?_)
  refine lv_aload_n hx hb d_Obj_begin_15 rfl (lv_at hl 0 rfl) ?_
  refine lv_iconst (v := (-1)) hx hb d_Obj_begin_16 (by decide) ?_
  obtain ⟨σ7, e8, hF⟩ := vL_some hF
  refine pf_Obj_owner B hP hD hS h0 e8 L_Obj_31 d_Obj_begin_17 (fun H locs hP hD hS => ?_)
  refine lv_aload_n hx hb d_Obj_begin_20 rfl (lv_at hl 0 rfl) ?_
  refine lv_iconst (v := 0) hx hb d_Obj_begin_21 (by decide) ?_
  obtain ⟨σ9, e10, hF⟩ := vL_some hF
  refine pf_Obj_abandoned B hP hD hS h0 (by decide) e10 L_Obj_43 d_Obj_begin_22 (fun H locs hP hD hS => ?_)
  refine lv_aload_n hx hb d_Obj_begin_25 rfl (lv_at hl 0 rfl) ?_
  refine lv_iconst (v := (-1)) hx hb d_Obj_begin_26 (by decide) ?_
  obtain ⟨σ11, e12, hF⟩ := vL_some hF
  refine pf_Obj_due B hP hD hS h0 e12 L_Obj_34 d_Obj_begin_27 (fun H locs hP hD hS => ?_)
  refine lv_aload_n hx hb d_Obj_begin_30 rfl (lv_at hl 0 rfl) ?_
  refine gf_Obj_rules B hP h0 L_Obj_12 d_Obj_begin_31 ?_
  refine lv_iconst (v := 0) hx hb d_Obj_begin_34 (by decide) ?_
  obtain ⟨σ13, e14, hF⟩ := vL_some hF
  refine pf_Rul_size B hP hD hS h0 e14 L_Obj_47 d_Obj_begin_35 (fun H locs hP hD hS => ?_)
  refine lv_aload_n hx hb d_Obj_begin_38 rfl (lv_at hl 0 rfl) ?_
  refine gf_Obj_row B hP h0 L_Obj_23 d_Obj_begin_39 ?_
  refine lv_iconst (v := 0) hx hb d_Obj_begin_42 (by decide) ?_
  obtain ⟨σ15, e16, hF⟩ := vL_some hF
  refine pf_Row_size B hP hD hS (ed_b16 h0) e16 L_Obj_50 d_Obj_begin_43 (fun H locs hP hD hS => ?_)
  exact ed_rV B hr hA hP hD hS (Option.some.inj hF) d_Obj_begin_46
set_option maxHeartbeats 4000000 in
set_option maxRecDepth 100000 in
theorem C_Obj_begin (l : Launch) (D : va_G) (ad : Nat → Nat) (ca : Nat → ClassId) (i0 : Nat) (x1 : Int32) (x2 : Int32) (x3 : Int32) (σ : ed_S) (σ' : ed_S) (h0 : i0 < 16) (hF : F_Obj_begin i0 x1 x2 x3 σ = some σ') : ed_MV l y_Obj_begin ws_Obj_begin rm_Obj_begin D ca (ed_w ad ca) [.ref (ad (pObj i0)), .int x1, .int x2, .int x3] σ σ' := by
  refine ed_metV (cc := prog_2_method_2_code) (own := "ExecutiveDesk$ObjectState") (nL := 4) (ret := none) (by decide) rfl rfl (Nat.le_of_ble_eq_true rfl) ?_
  intro p e s m args below meth c A B hr hA
  exact T_Obj_begin B hr hA i0 x1 x2 x3 σ h0 hF
abbrev ws_Desk_giveHandle : List Cond := Cond.code y_Desk_giveHandle prog_1_method_35_code 5 none :: ed_tb
abbrev rm_Desk_giveHandle : Room := { frames := 0, cells := 0, slots := 0, locals := 0 }
def F_Desk_giveHandle (i1 : Nat) (x2 : Int32) (x3 : Int32) (x4 : Int32) (σ : ed_S) : Option ed_S := (vG x2 8 fun j1 => vL (ed_st σ 41 i1 j1 x3) fun σ5 => (vG x2 8 fun j7 => vL (ed_st σ5 42 i1 j7 x4) fun σ11 => (vG x3 16 fun j13 => (vL (ed_st σ11 24 j13 0 ((σ11 24 j13 0) + 1)) fun σ17 => (some σ17)))))
set_option maxHeartbeats 4000000 in
set_option maxRecDepth 100000 in
theorem T_Desk_giveHandle {σ' : ed_S} (B : ed_B p s m args meth c prog_1_method_35_code "ExecutiveDesk" 5 D ca) (hr : meth.sig.returnType = none) (hA : ∀ q : Nat, s.heap.size ≤ q → A q) : ∀ (i1 : Nat) (x2 : Int32) (x3 : Int32) (x4 : Int32) (σ : ed_S), i1 < 4 → F_Desk_giveHandle  i1 x2 x3 x4 σ = some σ' → ed_G p l e rm_Desk_giveHandle s m args below meth c D ca (ed_w ad ca) A (ed_QV D ca (ed_w ad ca) A below args s σ') 5 0 [(0, .ref (ad (pDesk 0))), (1, .ref (ad (pProc i1))), (2, .int x2), (3, .int x3), (4, .int x4)] [] σ := by
  have hx := B.1
  have hb := B.2.1
  intro i1 x2 x3 x4 σ h1 hF H locs ls hP hD hS hl
  have hF : (vG x2 8 fun j1 => vL (ed_st σ 41 i1 j1 x3) fun σ5 => (vG x2 8 fun j7 => vL (ed_st σ5 42 i1 j7 x4) fun σ11 => (vG x3 16 fun j13 => (vL (ed_st σ11 24 j13 0 ((σ11 24 j13 0) + 1)) fun σ17 => (some σ17))))) = some σ' := hF
  refine lv_aload_n hx hb d_Desk_giveHandle_0 rfl (lv_at hl 1 rfl) ?_
  refine gf_Proc_handleObjects B hP h1 L_Desk_324 d_Desk_giveHandle_1 ?_
  refine lv_iload_n hx hb d_Desk_giveHandle_4 rfl (lv_at hl 2 rfl) ?_
  refine lv_iload_n hx hb d_Desk_giveHandle_5 rfl (lv_at hl 3 rfl) ?_
  obtain ⟨j1, ej2, hj3, hn4, hF⟩ := vG_some hF
  obtain ⟨σ5, e6, hF⟩ := vL_some hF
  refine is_PHo B hP hD hS h1 hn4 ej2 e6 d_Desk_giveHandle_6 (fun H locs hP hD hS => ?_)
  refine lv_aload_n hx hb d_Desk_giveHandle_7 rfl (lv_at hl 1 rfl) ?_
  refine gf_Proc_handleRights B hP h1 L_Desk_328 d_Desk_giveHandle_8 ?_
  refine lv_iload_n hx hb d_Desk_giveHandle_11 rfl (lv_at hl 2 rfl) ?_
  refine lv_iload hx hb d_Desk_giveHandle_12 (lv_at hl 4 rfl) ?_
  obtain ⟨j7, ej8, hj9, hn10, hF⟩ := vG_some hF
  obtain ⟨σ11, e12, hF⟩ := vL_some hF
  refine is_PRi B hP hD hS h1 hn10 ej8 e12 d_Desk_giveHandle_14 (fun H locs hP hD hS => ?_)
  refine lv_aload_n hx hb d_Desk_giveHandle_15 rfl (lv_at hl 0 rfl) ?_
  refine gf_Desk_objects B hP (by decide) L_Desk_29 d_Desk_giveHandle_16 ?_
  refine lv_iload_n hx hb d_Desk_giveHandle_19 rfl (lv_at hl 3 rfl) ?_
  obtain ⟨j13, ej14, hj15, hn16, hF⟩ := vG_some hF
  refine al_AObj B hP (by decide) hn16 ej14 hj15 d_Desk_giveHandle_20 ?_
  refine lv_dup hx hb d_Desk_giveHandle_21 rfl ?_
  refine gf_Obj_handles B hP hj15 L_Desk_141 d_Desk_giveHandle_22 ?_
  refine lv_iconst (v := 1) hx hb d_Desk_giveHandle_25 (by decide) ?_
  refine lv_iadd hx hb d_Desk_giveHandle_26 ?_
  obtain ⟨σ17, e18, hF⟩ := vL_some hF
  refine pf_Obj_handles B hP hD hS hj15 e18 L_Desk_141 d_Desk_giveHandle_27 (fun H locs hP hD hS => ?_)
  exact ed_rV B hr hA hP hD hS (Option.some.inj hF) d_Desk_giveHandle_30
set_option maxHeartbeats 4000000 in
set_option maxRecDepth 100000 in
theorem C_Desk_giveHandle (l : Launch) (D : va_G) (ad : Nat → Nat) (ca : Nat → ClassId) (i1 : Nat) (x2 : Int32) (x3 : Int32) (x4 : Int32) (σ : ed_S) (σ' : ed_S) (h1 : i1 < 4) (hF : F_Desk_giveHandle i1 x2 x3 x4 σ = some σ') : ed_MV l y_Desk_giveHandle ws_Desk_giveHandle rm_Desk_giveHandle D ca (ed_w ad ca) [.ref (ad (pDesk 0)), .ref (ad (pProc i1)), .int x2, .int x3, .int x4] σ σ' := by
  refine ed_metV (cc := prog_1_method_35_code) (own := "ExecutiveDesk") (nL := 5) (ret := none) (by decide) rfl rfl (Nat.le_of_ble_eq_true rfl) ?_
  intro p e s m args below meth c A B hr hA
  exact T_Desk_giveHandle B hr hA i1 x2 x3 x4 σ h1 hF
abbrev ws_Desk_create : List Cond := Cond.code y_Desk_create prog_1_method_4_code 7 (some .int) :: ed_tb
abbrev rm_Desk_create : Room := { frames := 2, cells := 0, slots := 0, locals := 42 }
def F_Desk_create_64 (x1 : Int32) (x2 : Int32) (x3 : Int32) (σ : ed_S) : Option (Int32 × ed_S) := (vBr (F_Desk_processOfRunning  σ) 4 fun j3 σ1 => (vB2 (F_Proc_freeHandle j3 σ1) fun r7 σ5 => (vB2 (F_Desk_freeObject  σ5) fun r10 σ8 => (if r7 = (-1) then (some ((-2), σ8)) else (if r10 = (-1) then (some ((-2), σ8)) else (vG r10 16 fun j13 => (vB1 (F_Obj_begin j13 x1 x2 x3 σ8) fun σ17 => (if x1 = 2 then (if x2 = 1 then (vG r10 16 fun j25 => (vL (ed_st σ17 27 j25 0 (σ17 5 0 0)) fun σ29 => (vB1 (F_Desk_giveHandle j3 r7 r10 7 σ29) fun σ31 => (some (r7, σ31))))) else (vB1 (F_Desk_giveHandle j3 r7 r10 7 σ17) fun σ23 => (some (r7, σ23)))) else (vB1 (F_Desk_giveHandle j3 r7 r10 7 σ17) fun σ20 => (some (r7, σ20)))))))))))
def F_Desk_create (x1 : Int32) (x2 : Int32) (x3 : Int32) (σ : ed_S) : Option (Int32 × ed_S) := (if (σ 5 0 0) = (-1) then (some ((-3), σ)) else (vB2 (F_Desk_isWithin x1 0 5 σ) fun r4 σ2 => (if r4 = 0 then (some ((-1), σ2)) else (vB2 (F_Desk_mostAtFirst x1 σ2) fun r8 σ6 => (vB2 (F_Desk_isWithin x2 0 r8 σ6) fun r11 σ9 => (if r11 = 0 then (some ((-1), σ9)) else (vB2 (F_Desk_isWithin x3 (-1) 15 σ9) fun r15 σ13 => (if r15 = 0 then (some ((-1), σ13)) else (if x3 = (-1) then (F_Desk_create_64  x1 x2 x3 σ13) else (vB2 (F_Desk_objectNamed x3 σ13) fun r20 σ18 => (if r20 = (-1) then (F_Desk_create_64  x1 x2 x3 σ18) else (some ((-6), σ18)))))))))))))
set_option maxHeartbeats 4000000 in
set_option maxRecDepth 100000 in
theorem T_Desk_create_64 {r : Int32} {σ' : ed_S} (B : ed_B p s m args meth c prog_1_method_4_code "ExecutiveDesk" 7 D ca) (hr : meth.sig.returnType = (some .int)) (hA : ∀ q : Nat, s.heap.size ≤ q → A q) : ∀ (x1 : Int32) (x2 : Int32) (x3 : Int32) (σ : ed_S), F_Desk_create_64  x1 x2 x3 σ = some (r, σ') → ed_G p l e rm_Desk_create s m args below meth c D ca (ed_w ad ca) A (ed_QI D ca (ed_w ad ca) A below args s r σ') 7 64 [(0, .ref (ad (pDesk 0))), (1, .int x1), (2, .int x2), (3, .int x3)] [] σ := by
  have hx := B.1
  have hb := B.2.1
  intro x1 x2 x3 σ  hF H locs ls hP hD hS hl
  have hF : (vBr (F_Desk_processOfRunning  σ) 4 fun j3 σ1 => (vB2 (F_Proc_freeHandle j3 σ1) fun r7 σ5 => (vB2 (F_Desk_freeObject  σ5) fun r10 σ8 => (if r7 = (-1) then (some ((-2), σ8)) else (if r10 = (-1) then (some ((-2), σ8)) else (vG r10 16 fun j13 => (vB1 (F_Obj_begin j13 x1 x2 x3 σ8) fun σ17 => (if x1 = 2 then (if x2 = 1 then (vG r10 16 fun j25 => (vL (ed_st σ17 27 j25 0 (σ17 5 0 0)) fun σ29 => (vB1 (F_Desk_giveHandle j3 r7 r10 7 σ29) fun σ31 => (some (r7, σ31))))) else (vB1 (F_Desk_giveHandle j3 r7 r10 7 σ17) fun σ23 => (some (r7, σ23)))) else (vB1 (F_Desk_giveHandle j3 r7 r10 7 σ17) fun σ20 => (some (r7, σ20))))))))))) = some (r, σ') := hF
  refine lv_aload_n hx hb d_Desk_create_64 rfl (lv_at hl 0 rfl) ?_
  obtain ⟨j3, σ1, q2, hj4, hF⟩ := vBr_some hF
  refine ed_cvR (As := []) (rest := []) B hP hD hS hA (C_Desk_processOfRunning l D ad ca  σ j3 σ1  q2) me_Desk_processOfRunning mv_Desk_processOfRunning L_Desk_102 (ed_rc_Desk B hP (by decide)) ⟨rfl, rfl⟩ ⟨Nat.le_of_ble_eq_true rfl, Nat.le_of_ble_eq_true rfl⟩ rfl rfl hl.1 (lv_room (Nat.le_of_ble_eq_true rfl)) d_Desk_create_65 (fun H locs hP hD hS => ?_)
  refine lv_astore (lv' := [(4, .ref (ad (pProc j3))), (0, .ref (ad (pDesk 0))), (1, .int x1), (2, .int x2), (3, .int x3)]) hx hb d_Desk_create_68 hl (by decide) rfl (fun ls hl => ?_)
  refine lv_aload hx hb d_Desk_create_70 (lv_at hl 0 rfl) ?_
  obtain ⟨r7, σ5, q6, hF⟩ := vB2_some hF
  refine ed_cvI (As := []) (rest := []) B hP hD hS hA (C_Proc_freeHandle l D ad ca j3 σ1 r7 σ5 hj4 q6) me_Proc_freeHandle mv_Proc_freeHandle L_Desk_106 (ed_rc_Proc B hP hj4) ⟨rfl, rfl⟩ ⟨Nat.le_of_ble_eq_true rfl, Nat.le_of_ble_eq_true rfl⟩ rfl rfl hl.1 (lv_room (Nat.le_of_ble_eq_true rfl)) d_Desk_create_72 (fun H locs hP hD hS => ?_)
  refine lv_istore (lv' := [(5, .int r7), (4, .ref (ad (pProc j3))), (0, .ref (ad (pDesk 0))), (1, .int x1), (2, .int x2), (3, .int x3)]) hx hb d_Desk_create_75 hl (by decide) rfl (fun ls hl => ?_)
  refine lv_aload_n hx hb d_Desk_create_77 rfl (lv_at hl 2 rfl) ?_
  obtain ⟨r10, σ8, q9, hF⟩ := vB2_some hF
  refine ed_cvI (As := []) (rest := []) B hP hD hS hA (C_Desk_freeObject l D ad ca  σ5 r10 σ8  q9) me_Desk_freeObject mv_Desk_freeObject L_Desk_110 (ed_rc_Desk B hP (by decide)) ⟨rfl, rfl⟩ ⟨Nat.le_of_ble_eq_true rfl, Nat.le_of_ble_eq_true rfl⟩ rfl rfl hl.1 (lv_room (Nat.le_of_ble_eq_true rfl)) d_Desk_create_78 (fun H locs hP hD hS => ?_)
  refine lv_istore (lv' := [(6, .int r10), (5, .int r7), (4, .ref (ad (pProc j3))), (0, .ref (ad (pDesk 0))), (1, .int x1), (2, .int x2), (3, .int x3)]) hx hb d_Desk_create_81 hl (by decide) rfl (fun ls hl => ?_)
  refine lv_iload hx hb d_Desk_create_83 (lv_at hl 1 rfl) ?_
  refine lv_iconst (v := (-1)) hx hb d_Desk_create_85 (by decide) ?_
  refine lv_icmp_eq (tgt := 95) hx hb d_Desk_create_86 (by decide) (fun c11 => ?_) (fun c11 => ?_)
  · have hF := vIt c11 hF
    refine lv_bipush (v := (-2)) hx hb d_Desk_create_95 (by decide) ?_
    exact ed_rI B hr hA hP hD hS (vP hF) d_Desk_create_97
  · have hF := vIf c11 hF
    refine lv_iload hx hb d_Desk_create_89 (lv_at hl 0 rfl) ?_
    refine lv_iconst (v := (-1)) hx hb d_Desk_create_91 (by decide) ?_
    refine lv_icmp_ne (tgt := 98) hx hb d_Desk_create_92 (by decide) (fun c12 => ?_) (fun c12 => ?_)
    · have hF := vIf c12 hF
      refine lv_aload_n hx hb d_Desk_create_98 rfl (lv_at hl 3 rfl) ?_
      refine gf_Desk_objects B hP (by decide) L_Desk_29 d_Desk_create_99 ?_
      refine lv_iload hx hb d_Desk_create_102 (lv_at hl 0 rfl) ?_
      obtain ⟨j13, ej14, hj15, hn16, hF⟩ := vG_some hF
      refine al_AObj B hP (by decide) hn16 ej14 hj15 d_Desk_create_104 ?_
      refine lv_iload_n hx hb d_Desk_create_105 rfl (lv_at hl 4 rfl) ?_
      refine lv_iload_n hx hb d_Desk_create_106 rfl (lv_at hl 5 rfl) ?_
      refine lv_iload_n hx hb d_Desk_create_107 rfl (lv_at hl 6 rfl) ?_
      obtain ⟨σ17, q18, hF⟩ := vB1_some hF
      refine ed_cvV (As := [.int x1, .int x2, .int x3]) (rest := []) B hP hD hS hA (C_Obj_begin l D ad ca j13 x1 x2 x3 σ8 σ17 hj15 q18) me_Obj_begin mv_Obj_begin L_Desk_113 (ed_rc_Obj B hP hj15) ⟨rfl, rfl⟩ ⟨Nat.le_of_ble_eq_true rfl, Nat.le_of_ble_eq_true rfl⟩ rfl rfl hl.1 (lv_room (Nat.le_of_ble_eq_true rfl)) d_Desk_create_108 (fun H locs hP hD hS => ?_)
      refine lv_iload_n hx hb d_Desk_create_111 rfl (lv_at hl 4 rfl) ?_
      refine lv_iconst (v := 2) hx hb d_Desk_create_112 (by decide) ?_
      refine lv_icmp_ne (tgt := 138) hx hb d_Desk_create_113 (by decide) (fun c19 => ?_) (fun c19 => ?_)
      · have hF := vIf c19 hF
        refine lv_aload_n hx hb d_Desk_create_138 rfl (lv_at hl 3 rfl) ?_
        refine lv_aload hx hb d_Desk_create_139 (lv_at hl 2 rfl) ?_
        refine lv_iload hx hb d_Desk_create_141 (lv_at hl 1 rfl) ?_
        refine lv_iload hx hb d_Desk_create_143 (lv_at hl 0 rfl) ?_
        refine lv_bipush (v := 7) hx hb d_Desk_create_145 (by decide) ?_
        obtain ⟨σ20, q21, hF⟩ := vB1_some hF
        refine ed_cvV (As := [.ref (ad (pProc j3)), .int r7, .int r10, .int 7]) (rest := []) B hP hD hS hA (C_Desk_giveHandle l D ad ca j3 r7 r10 7 σ17 σ20 hj4 q21) me_Desk_giveHandle mv_Desk_giveHandle L_Desk_120 (ed_rc_Desk B hP (by decide)) ⟨rfl, rfl⟩ ⟨Nat.le_of_ble_eq_true rfl, Nat.le_of_ble_eq_true rfl⟩ rfl rfl hl.1 (lv_room (Nat.le_of_ble_eq_true rfl)) d_Desk_create_147 (fun H locs hP hD hS => ?_)
        refine lv_iload hx hb d_Desk_create_150 (lv_at hl 1 rfl) ?_
        exact ed_rI B hr hA hP hD hS (vP hF) d_Desk_create_152
      · have hF := vIt c19 hF
        refine lv_iload_n hx hb d_Desk_create_116 rfl (lv_at hl 5 rfl) ?_
        refine lv_iconst (v := 1) hx hb d_Desk_create_117 (by decide) ?_
        refine lv_icmp_ne (tgt := 138) hx hb d_Desk_create_118 (by decide) (fun c22 => ?_) (fun c22 => ?_)
        · have hF := vIf c22 hF
          refine lv_aload_n hx hb d_Desk_create_138 rfl (lv_at hl 3 rfl) ?_
          refine lv_aload hx hb d_Desk_create_139 (lv_at hl 2 rfl) ?_
          refine lv_iload hx hb d_Desk_create_141 (lv_at hl 1 rfl) ?_
          refine lv_iload hx hb d_Desk_create_143 (lv_at hl 0 rfl) ?_
          refine lv_bipush (v := 7) hx hb d_Desk_create_145 (by decide) ?_
          obtain ⟨σ23, q24, hF⟩ := vB1_some hF
          refine ed_cvV (As := [.ref (ad (pProc j3)), .int r7, .int r10, .int 7]) (rest := []) B hP hD hS hA (C_Desk_giveHandle l D ad ca j3 r7 r10 7 σ17 σ23 hj4 q24) me_Desk_giveHandle mv_Desk_giveHandle L_Desk_120 (ed_rc_Desk B hP (by decide)) ⟨rfl, rfl⟩ ⟨Nat.le_of_ble_eq_true rfl, Nat.le_of_ble_eq_true rfl⟩ rfl rfl hl.1 (lv_room (Nat.le_of_ble_eq_true rfl)) d_Desk_create_147 (fun H locs hP hD hS => ?_)
          refine lv_iload hx hb d_Desk_create_150 (lv_at hl 1 rfl) ?_
          exact ed_rI B hr hA hP hD hS (vP hF) d_Desk_create_152
        · have hF := vIt c22 hF
          refine lv_aload_n hx hb d_Desk_create_121 rfl (lv_at hl 3 rfl) ?_
          refine gf_Desk_objects B hP (by decide) L_Desk_29 d_Desk_create_122 ?_
          refine lv_iload hx hb d_Desk_create_125 (lv_at hl 0 rfl) ?_
          obtain ⟨j25, ej26, hj27, hn28, hF⟩ := vG_some hF
          refine al_AObj B hP (by decide) hn28 ej26 hj27 d_Desk_create_127 ?_
          refine lv_aload_n hx hb d_Desk_create_128 rfl (lv_at hl 3 rfl) ?_
          refine gf_Desk_scheduler B hP (by decide) L_Desk_18 d_Desk_create_129 ?_
          refine gf_Sched_running B hP (by decide) L_Desk_92 d_Desk_create_132 ?_
          obtain ⟨σ29, e30, hF⟩ := vL_some hF
          refine pf_Obj_owner B hP hD hS hj27 e30 L_Desk_117 d_Desk_create_135 (fun H locs hP hD hS => ?_)
          refine lv_aload_n hx hb d_Desk_create_138 rfl (lv_at hl 3 rfl) ?_
          refine lv_aload hx hb d_Desk_create_139 (lv_at hl 2 rfl) ?_
          refine lv_iload hx hb d_Desk_create_141 (lv_at hl 1 rfl) ?_
          refine lv_iload hx hb d_Desk_create_143 (lv_at hl 0 rfl) ?_
          refine lv_bipush (v := 7) hx hb d_Desk_create_145 (by decide) ?_
          obtain ⟨σ31, q32, hF⟩ := vB1_some hF
          refine ed_cvV (As := [.ref (ad (pProc j3)), .int r7, .int r10, .int 7]) (rest := []) B hP hD hS hA (C_Desk_giveHandle l D ad ca j3 r7 r10 7 σ29 σ31 hj4 q32) me_Desk_giveHandle mv_Desk_giveHandle L_Desk_120 (ed_rc_Desk B hP (by decide)) ⟨rfl, rfl⟩ ⟨Nat.le_of_ble_eq_true rfl, Nat.le_of_ble_eq_true rfl⟩ rfl rfl hl.1 (lv_room (Nat.le_of_ble_eq_true rfl)) d_Desk_create_147 (fun H locs hP hD hS => ?_)
          refine lv_iload hx hb d_Desk_create_150 (lv_at hl 1 rfl) ?_
          exact ed_rI B hr hA hP hD hS (vP hF) d_Desk_create_152
    · have hF := vIt c12 hF
      refine lv_bipush (v := (-2)) hx hb d_Desk_create_95 (by decide) ?_
      exact ed_rI B hr hA hP hD hS (vP hF) d_Desk_create_97
set_option maxHeartbeats 4000000 in
set_option maxRecDepth 100000 in
theorem T_Desk_create {r : Int32} {σ' : ed_S} (B : ed_B p s m args meth c prog_1_method_4_code "ExecutiveDesk" 7 D ca) (hr : meth.sig.returnType = (some .int)) (hA : ∀ q : Nat, s.heap.size ≤ q → A q) : ∀ (x1 : Int32) (x2 : Int32) (x3 : Int32) (σ : ed_S), F_Desk_create  x1 x2 x3 σ = some (r, σ') → ed_G p l e rm_Desk_create s m args below meth c D ca (ed_w ad ca) A (ed_QI D ca (ed_w ad ca) A below args s r σ') 7 0 [(0, .ref (ad (pDesk 0))), (1, .int x1), (2, .int x2), (3, .int x3)] [] σ := by
  have hx := B.1
  have hb := B.2.1
  intro x1 x2 x3 σ  hF H locs ls hP hD hS hl
  have hF : (if (σ 5 0 0) = (-1) then (some ((-3), σ)) else (vB2 (F_Desk_isWithin x1 0 5 σ) fun r4 σ2 => (if r4 = 0 then (some ((-1), σ2)) else (vB2 (F_Desk_mostAtFirst x1 σ2) fun r8 σ6 => (vB2 (F_Desk_isWithin x2 0 r8 σ6) fun r11 σ9 => (if r11 = 0 then (some ((-1), σ9)) else (vB2 (F_Desk_isWithin x3 (-1) 15 σ9) fun r15 σ13 => (if r15 = 0 then (some ((-1), σ13)) else (if x3 = (-1) then (F_Desk_create_64  x1 x2 x3 σ13) else (vB2 (F_Desk_objectNamed x3 σ13) fun r20 σ18 => (if r20 = (-1) then (F_Desk_create_64  x1 x2 x3 σ18) else (some ((-6), σ18))))))))))))) = some (r, σ') := hF
  refine lv_aload_n hx hb d_Desk_create_0 rfl (lv_at hl 0 rfl) ?_
  refine gf_Desk_scheduler B hP (by decide) L_Desk_18 d_Desk_create_1 ?_
  refine gf_Sched_running B hP (by decide) L_Desk_92 d_Desk_create_4 ?_
  refine lv_iconst (v := (-1)) hx hb d_Desk_create_7 (by decide) ?_
  refine lv_icmp_ne (tgt := 14) hx hb d_Desk_create_8 (by decide) (fun c1 => ?_) (fun c1 => ?_)
  · have hF := vIf c1 hF
    refine lv_iload_n hx hb d_Desk_create_14 rfl (lv_at hl 1 rfl) ?_
    refine lv_iconst (v := 0) hx hb d_Desk_create_15 (by decide) ?_
    refine lv_iconst (v := 5) hx hb d_Desk_create_16 (by decide) ?_
    obtain ⟨r4, σ2, q3, hF⟩ := vB2_some hF
    refine ed_csI (As := [.int x1, .int 0, .int 5]) (rest := []) B hP hD hS hA (C_Desk_isWithin l D ad ca x1 0 5 σ r4 σ2  q3) me_Desk_isWithin st_Desk_isWithin L_Desk_54 ⟨rfl, rfl⟩ ⟨Nat.le_of_ble_eq_true rfl, Nat.le_of_ble_eq_true rfl⟩ rfl rfl hl.1 (lv_room (Nat.le_of_ble_eq_true rfl)) d_Desk_create_17 (fun H locs hP hD hS => ?_)
    refine lv_if_eq (tgt := 45) hx hb d_Desk_create_20 (by decide) (fun c5 => ?_) (fun c5 => ?_)
    · have hF := vIt c5 hF
      refine lv_iconst (v := (-1)) hx hb d_Desk_create_45 (by decide) ?_
      exact ed_rI B hr hA hP hD hS (vP hF) d_Desk_create_46
    · have hF := vIf c5 hF
      refine lv_iload_n hx hb d_Desk_create_23 rfl (lv_at hl 2 rfl) ?_
      refine lv_iconst (v := 0) hx hb d_Desk_create_24 (by decide) ?_
      refine lv_iload_n hx hb d_Desk_create_25 rfl (lv_at hl 1 rfl) ?_
      obtain ⟨r8, σ6, q7, hF⟩ := vB2_some hF
      refine ed_csI (As := [.int x1]) (rest := [.int 0, .int x2]) B hP hD hS hA (C_Desk_mostAtFirst l D ad ca x1 σ2 r8 σ6  q7) me_Desk_mostAtFirst st_Desk_mostAtFirst L_Desk_95 ⟨rfl, rfl⟩ ⟨Nat.le_of_ble_eq_true rfl, Nat.le_of_ble_eq_true rfl⟩ rfl rfl hl.1 (lv_room (Nat.le_of_ble_eq_true rfl)) d_Desk_create_26 (fun H locs hP hD hS => ?_)
      obtain ⟨r11, σ9, q10, hF⟩ := vB2_some hF
      refine ed_csI (As := [.int x2, .int 0, .int r8]) (rest := []) B hP hD hS hA (C_Desk_isWithin l D ad ca x2 0 r8 σ6 r11 σ9  q10) me_Desk_isWithin st_Desk_isWithin L_Desk_54 ⟨rfl, rfl⟩ ⟨Nat.le_of_ble_eq_true rfl, Nat.le_of_ble_eq_true rfl⟩ rfl rfl hl.1 (lv_room (Nat.le_of_ble_eq_true rfl)) d_Desk_create_29 (fun H locs hP hD hS => ?_)
      refine lv_if_eq (tgt := 45) hx hb d_Desk_create_32 (by decide) (fun c12 => ?_) (fun c12 => ?_)
      · have hF := vIt c12 hF
        refine lv_iconst (v := (-1)) hx hb d_Desk_create_45 (by decide) ?_
        exact ed_rI B hr hA hP hD hS (vP hF) d_Desk_create_46
      · have hF := vIf c12 hF
        refine lv_iload_n hx hb d_Desk_create_35 rfl (lv_at hl 3 rfl) ?_
        refine lv_iconst (v := (-1)) hx hb d_Desk_create_36 (by decide) ?_
        refine lv_bipush (v := 15) hx hb d_Desk_create_37 (by decide) ?_
        obtain ⟨r15, σ13, q14, hF⟩ := vB2_some hF
        refine ed_csI (As := [.int x3, .int (-1), .int 15]) (rest := []) B hP hD hS hA (C_Desk_isWithin l D ad ca x3 (-1) 15 σ9 r15 σ13  q14) me_Desk_isWithin st_Desk_isWithin L_Desk_54 ⟨rfl, rfl⟩ ⟨Nat.le_of_ble_eq_true rfl, Nat.le_of_ble_eq_true rfl⟩ rfl rfl hl.1 (lv_room (Nat.le_of_ble_eq_true rfl)) d_Desk_create_39 (fun H locs hP hD hS => ?_)
        refine lv_if_ne (tgt := 47) hx hb d_Desk_create_42 (by decide) (fun c16 => ?_) (fun c16 => ?_)
        · have hF := vIf c16 hF
          refine lv_iload_n hx hb d_Desk_create_47 rfl (lv_at hl 3 rfl) ?_
          refine lv_iconst (v := (-1)) hx hb d_Desk_create_48 (by decide) ?_
          refine lv_icmp_eq (tgt := 64) hx hb d_Desk_create_49 (by decide) (fun c17 => ?_) (fun c17 => ?_)
          · have hF := vIt c17 hF
            exact T_Desk_create_64 B hr hA  x1 x2 x3 σ13  hF _ _ _ hP hD hS (lv_sub hl [0, 1, 2, 3] rfl)
          · have hF := vIf c17 hF
            refine lv_aload_n hx hb d_Desk_create_52 rfl (lv_at hl 0 rfl) ?_
            refine lv_iload_n hx hb d_Desk_create_53 rfl (lv_at hl 3 rfl) ?_
            obtain ⟨r20, σ18, q19, hF⟩ := vB2_some hF
            refine ed_cvI (As := [.int x3]) (rest := []) B hP hD hS hA (C_Desk_objectNamed l D ad ca x3 σ13 r20 σ18  q19) me_Desk_objectNamed mv_Desk_objectNamed L_Desk_99 (ed_rc_Desk B hP (by decide)) ⟨rfl, rfl⟩ ⟨Nat.le_of_ble_eq_true rfl, Nat.le_of_ble_eq_true rfl⟩ rfl rfl hl.1 (lv_room (Nat.le_of_ble_eq_true rfl)) d_Desk_create_54 (fun H locs hP hD hS => ?_)
            refine lv_iconst (v := (-1)) hx hb d_Desk_create_57 (by decide) ?_
            refine lv_icmp_eq (tgt := 64) hx hb d_Desk_create_58 (by decide) (fun c21 => ?_) (fun c21 => ?_)
            · have hF := vIt c21 hF
              exact T_Desk_create_64 B hr hA  x1 x2 x3 σ18  hF _ _ _ hP hD hS (lv_sub hl [0, 1, 2, 3] rfl)
            · have hF := vIf c21 hF
              refine lv_bipush (v := (-6)) hx hb d_Desk_create_61 (by decide) ?_
              exact ed_rI B hr hA hP hD hS (vP hF) d_Desk_create_63
        · have hF := vIt c16 hF
          refine lv_iconst (v := (-1)) hx hb d_Desk_create_45 (by decide) ?_
          exact ed_rI B hr hA hP hD hS (vP hF) d_Desk_create_46
  · have hF := vIt c1 hF
    refine lv_bipush (v := (-3)) hx hb d_Desk_create_11 (by decide) ?_
    exact ed_rI B hr hA hP hD hS (vP hF) d_Desk_create_13
set_option maxHeartbeats 4000000 in
set_option maxRecDepth 100000 in
theorem C_Desk_create (l : Launch) (D : va_G) (ad : Nat → Nat) (ca : Nat → ClassId) (x1 : Int32) (x2 : Int32) (x3 : Int32) (σ : ed_S) (r : Int32) (σ' : ed_S) (hF : F_Desk_create x1 x2 x3 σ = some (r, σ')) : ed_MI l y_Desk_create ws_Desk_create rm_Desk_create D ca (ed_w ad ca) [.ref (ad (pDesk 0)), .int x1, .int x2, .int x3] σ r σ' := by
  refine ed_metI (cc := prog_1_method_4_code) (own := "ExecutiveDesk") (nL := 7) (ret := (some .int)) (by decide) rfl rfl (Nat.le_of_ble_eq_true rfl) ?_
  intro p e s m args below meth c A B hr hA
  exact T_Desk_create B hr hA x1 x2 x3 σ  hF
abbrev ws_Rul_grants : List Cond := Cond.code y_Rul_grants prog_5_method_3_code 5 (some .boolean) :: ed_tb
abbrev rm_Rul_grants : Room := { frames := 0, cells := 0, slots := 0, locals := 0 }
def F_Rul_grants_5 : Nat → Nat → Int32 → Int32 → Int32 → Int32 → ed_S → Option (Int32 × ed_S)
  | 0, _, _, _, _, _, _ => none
  | n + 1, i0, x1, x2, x3, x4, σ => (if (σ 30 i0 0) ≤ x4 then (if (σ 30 i0 0) = 0 then (some (1, σ)) else (if x3 = 0 then (some (1, σ)) else (some (0, σ)))) else (if x3 = 0 then (if (σ 30 i0 0) = 0 then (some (1, σ)) else (if x3 = 0 then (some (1, σ)) else (some (0, σ)))) else (vG x4 4 fun j7 => (if (x1 &&& (1 <<< ((σ 44 i0 j7) &&& 31))) = 0 then ((F_Rul_grants_5  n) i0 x1 x2 x3 (x4 + 1) σ) else (vG x4 4 fun j12 => (if (σ 43 i0 j12) = 1 then (vG x4 4 fun j22 => ((F_Rul_grants_5  n) i0 x1 x2 (x3 &&& ((σ 45 i0 j22) ^^^ (-1))) (x4 + 1) σ)) else (vG x4 4 fun j17 => (if (x3 &&& (σ 45 i0 j17)) = 0 then ((F_Rul_grants_5  n) i0 x1 x2 x3 (x4 + 1) σ) else (some (0, σ))))))))))
def F_Rul_grants (i0 : Nat) (x1 : Int32) (x2 : Int32) (σ : ed_S) : Option (Int32 × ed_S) := (F_Rul_grants_5  ed_fu i0 x1 x2 x2 0 σ)
set_option maxHeartbeats 4000000 in
set_option maxRecDepth 100000 in
theorem T_Rul_grants_5 {r : Int32} {σ' : ed_S} (B : ed_B p s m args meth c prog_5_method_3_code "ExecutiveDesk$RuleList" 5 D ca) (hr : meth.sig.returnType = (some .boolean)) (hA : ∀ q : Nat, s.heap.size ≤ q → A q) : ∀ (n : Nat) (i0 : Nat) (x1 : Int32) (x2 : Int32) (x3 : Int32) (x4 : Int32) (σ : ed_S), i0 < 16 → F_Rul_grants_5  n i0 x1 x2 x3 x4 σ = some (r, σ') → ed_G p l e rm_Rul_grants s m args below meth c D ca (ed_w ad ca) A (ed_QI D ca (ed_w ad ca) A below args s r σ') 5 5 [(0, .ref (ad (pRul i0))), (1, .int x1), (2, .int x2), (3, .int x3), (4, .int x4)] [] σ := by
  have hx := B.1
  have hb := B.2.1
  intro n
  induction n with
  | zero => intro i0 x1 x2 x3 x4 σ h0 hF; exact absurd hF (by intro h; cases h)
  | succ n kk5 =>
    intro i0 x1 x2 x3 x4 σ h0 hF H locs ls hP hD hS hl
    have hF : (if (σ 30 i0 0) ≤ x4 then (if (σ 30 i0 0) = 0 then (some (1, σ)) else (if x3 = 0 then (some (1, σ)) else (some (0, σ)))) else (if x3 = 0 then (if (σ 30 i0 0) = 0 then (some (1, σ)) else (if x3 = 0 then (some (1, σ)) else (some (0, σ)))) else (vG x4 4 fun j7 => (if (x1 &&& (1 <<< ((σ 44 i0 j7) &&& 31))) = 0 then ((F_Rul_grants_5  n) i0 x1 x2 x3 (x4 + 1) σ) else (vG x4 4 fun j12 => (if (σ 43 i0 j12) = 1 then (vG x4 4 fun j22 => ((F_Rul_grants_5  n) i0 x1 x2 (x3 &&& ((σ 45 i0 j22) ^^^ (-1))) (x4 + 1) σ)) else (vG x4 4 fun j17 => (if (x3 &&& (σ 45 i0 j17)) = 0 then ((F_Rul_grants_5  n) i0 x1 x2 x3 (x4 + 1) σ) else (some (0, σ)))))))))) = some (r, σ') := hF
    refine lv_iload hx hb d_Rul_grants_5 (lv_at hl 4 rfl) ?_
    refine lv_aload_n hx hb d_Rul_grants_7 rfl (lv_at hl 0 rfl) ?_
    refine gf_Rul_size B hP h0 L_Rul_21 d_Rul_grants_8 ?_
    refine lv_icmp_ge (tgt := 81) hx hb d_Rul_grants_11 (by decide) (fun c1 => ?_) (fun c1 => ?_)
    · have hF := vIt c1 hF
      refine lv_aload_n hx hb d_Rul_grants_81 rfl (lv_at hl 0 rfl) ?_
      refine gf_Rul_size B hP h0 L_Rul_21 d_Rul_grants_82 ?_
      refine lv_if_eq (tgt := 92) hx hb d_Rul_grants_85 (by decide) (fun c2 => ?_) (fun c2 => ?_)
      · have hF := vIt c2 hF
        refine lv_iconst (v := 1) hx hb d_Rul_grants_92 (by decide) ?_
        refine lv_goto (tgt := 97) hx hb d_Rul_grants_93 (by decide) ?_
        exact ed_rZ B hr hA hP hD hS (by decide) (vP hF) d_Rul_grants_97
      · have hF := vIf c2 hF
        refine lv_iload_n hx hb d_Rul_grants_88 rfl (lv_at hl 3 rfl) ?_
        refine lv_if_ne (tgt := 96) hx hb d_Rul_grants_89 (by decide) (fun c3 => ?_) (fun c3 => ?_)
        · have hF := vIf c3 hF
          refine lv_iconst (v := 0) hx hb d_Rul_grants_96 (by decide) ?_
          exact ed_rZ B hr hA hP hD hS (by decide) (vP hF) d_Rul_grants_97
        · have hF := vIt c3 hF
          refine lv_iconst (v := 1) hx hb d_Rul_grants_92 (by decide) ?_
          refine lv_goto (tgt := 97) hx hb d_Rul_grants_93 (by decide) ?_
          exact ed_rZ B hr hA hP hD hS (by decide) (vP hF) d_Rul_grants_97
    · have hF := vIf c1 hF
      refine lv_iload_n hx hb d_Rul_grants_14 rfl (lv_at hl 3 rfl) ?_
      refine lv_if_eq (tgt := 81) hx hb d_Rul_grants_15 (by decide) (fun c4 => ?_) (fun c4 => ?_)
      · have hF := vIt c4 hF
        refine lv_aload_n hx hb d_Rul_grants_81 rfl (lv_at hl 0 rfl) ?_
        refine gf_Rul_size B hP h0 L_Rul_21 d_Rul_grants_82 ?_
        refine lv_if_eq (tgt := 92) hx hb d_Rul_grants_85 (by decide) (fun c5 => ?_) (fun c5 => ?_)
        · have hF := vIt c5 hF
          refine lv_iconst (v := 1) hx hb d_Rul_grants_92 (by decide) ?_
          refine lv_goto (tgt := 97) hx hb d_Rul_grants_93 (by decide) ?_
          exact ed_rZ B hr hA hP hD hS (by decide) (vP hF) d_Rul_grants_97
        · have hF := vIf c5 hF
          refine lv_iload_n hx hb d_Rul_grants_88 rfl (lv_at hl 3 rfl) ?_
          refine lv_if_ne (tgt := 96) hx hb d_Rul_grants_89 (by decide) (fun c6 => ?_) (fun c6 => ?_)
          · have hF := vIf c6 hF
            refine lv_iconst (v := 0) hx hb d_Rul_grants_96 (by decide) ?_
            exact ed_rZ B hr hA hP hD hS (by decide) (vP hF) d_Rul_grants_97
          · have hF := vIt c6 hF
            refine lv_iconst (v := 1) hx hb d_Rul_grants_92 (by decide) ?_
            refine lv_goto (tgt := 97) hx hb d_Rul_grants_93 (by decide) ?_
            exact ed_rZ B hr hA hP hD hS (by decide) (vP hF) d_Rul_grants_97
      · have hF := vIf c4 hF
        refine lv_iload_n hx hb d_Rul_grants_18 rfl (lv_at hl 1 rfl) ?_
        refine lv_iconst (v := 1) hx hb d_Rul_grants_19 (by decide) ?_
        refine lv_aload_n hx hb d_Rul_grants_20 rfl (lv_at hl 0 rfl) ?_
        refine gf_Rul_groups B hP h0 L_Rul_15 d_Rul_grants_21 ?_
        refine lv_iload hx hb d_Rul_grants_24 (lv_at hl 4 rfl) ?_
        obtain ⟨j7, ej8, hj9, hn10, hF⟩ := vG_some hF
        refine il_RGr B hP h0 hn10 ej8 d_Rul_grants_26 ?_
        refine lv_ishl hx hb d_Rul_grants_27 ?_
        refine lv_iand hx hb d_Rul_grants_28 ?_
        refine lv_if_ne (tgt := 35) hx hb d_Rul_grants_29 (by decide) (fun c11 => ?_) (fun c11 => ?_)
        · have hF := vIf c11 hF
          refine lv_aload_n hx hb d_Rul_grants_35 rfl (lv_at hl 0 rfl) ?_
          refine gf_Rul_kinds B hP h0 L_Rul_9 d_Rul_grants_36 ?_
          refine lv_iload hx hb d_Rul_grants_39 (lv_at hl 4 rfl) ?_
          obtain ⟨j12, ej13, hj14, hn15, hF⟩ := vG_some hF
          refine il_RKi B hP h0 hn15 ej13 d_Rul_grants_41 ?_
          refine lv_iconst (v := 1) hx hb d_Rul_grants_42 (by decide) ?_
          refine lv_icmp_ne (tgt := 61) hx hb d_Rul_grants_43 (by decide) (fun c16 => ?_) (fun c16 => ?_)
          · have hF := vIf c16 hF
            refine lv_iload_n hx hb d_Rul_grants_61 rfl (lv_at hl 3 rfl) ?_
            refine lv_aload_n hx hb d_Rul_grants_62 rfl (lv_at hl 0 rfl) ?_
            refine gf_Rul_rights B hP h0 L_Rul_18 d_Rul_grants_63 ?_
            refine lv_iload hx hb d_Rul_grants_66 (lv_at hl 4 rfl) ?_
            obtain ⟨j17, ej18, hj19, hn20, hF⟩ := vG_some hF
            refine il_RRi B hP h0 hn20 ej18 d_Rul_grants_68 ?_
            refine lv_iand hx hb d_Rul_grants_69 ?_
            refine lv_if_eq (tgt := 75) hx hb d_Rul_grants_70 (by decide) (fun c21 => ?_) (fun c21 => ?_)
            · have hF := vIt c21 hF
              refine lv_iinc (v := (x4 + 1)) (lv' := [(4, .int (x4 + 1)), (0, .ref (ad (pRul i0))), (1, .int x1), (2, .int x2), (3, .int x3)]) hx hb d_Rul_grants_75 hl (k := 4) rfl rfl (by decide) rfl (fun ls hl => ?_)
              refine lv_goto (tgt := 5) hx hb d_Rul_grants_78 (by decide) ?_
              exact kk5 i0 x1 x2 x3 (x4 + 1) σ h0 hF _ _ _ hP hD hS (lv_sub hl [1, 2, 3, 4, 0] rfl)
            · have hF := vIf c21 hF
              refine lv_iconst (v := 0) hx hb d_Rul_grants_73 (by decide) ?_
              exact ed_rZ B hr hA hP hD hS (by decide) (vP hF) d_Rul_grants_74
          · have hF := vIt c16 hF
            refine lv_iload_n hx hb d_Rul_grants_46 rfl (lv_at hl 3 rfl) ?_
            refine lv_aload_n hx hb d_Rul_grants_47 rfl (lv_at hl 0 rfl) ?_
            refine gf_Rul_rights B hP h0 L_Rul_18 d_Rul_grants_48 ?_
            refine lv_iload hx hb d_Rul_grants_51 (lv_at hl 4 rfl) ?_
            obtain ⟨j22, ej23, hj24, hn25, hF⟩ := vG_some hF
            refine il_RRi B hP h0 hn25 ej23 d_Rul_grants_53 ?_
            refine lv_iconst (v := (-1)) hx hb d_Rul_grants_54 (by decide) ?_
            refine lv_ixor hx hb d_Rul_grants_55 ?_
            refine lv_iand hx hb d_Rul_grants_56 ?_
            refine lv_istore_n (lv' := [(3, .int (x3 &&& ((σ 45 i0 j22) ^^^ (-1)))), (0, .ref (ad (pRul i0))), (1, .int x1), (2, .int x2), (4, .int x4)]) hx hb d_Rul_grants_57 rfl hl (by decide) rfl (fun ls hl => ?_)
            refine lv_goto (tgt := 75) hx hb d_Rul_grants_58 (by decide) ?_
            refine lv_iinc (v := (x4 + 1)) (lv' := [(4, .int (x4 + 1)), (3, .int (x3 &&& ((σ 45 i0 j22) ^^^ (-1)))), (0, .ref (ad (pRul i0))), (1, .int x1), (2, .int x2)]) hx hb d_Rul_grants_75 hl (k := 4) rfl rfl (by decide) rfl (fun ls hl => ?_)
            refine lv_goto (tgt := 5) hx hb d_Rul_grants_78 (by decide) ?_
            exact kk5 i0 x1 x2 (x3 &&& ((σ 45 i0 j22) ^^^ (-1))) (x4 + 1) σ h0 hF _ _ _ hP hD hS (lv_sub hl [2, 3, 4, 1, 0] rfl)
        · have hF := vIt c11 hF
          refine lv_goto (tgt := 75) hx hb d_Rul_grants_32 (by decide) ?_
          refine lv_iinc (v := (x4 + 1)) (lv' := [(4, .int (x4 + 1)), (0, .ref (ad (pRul i0))), (1, .int x1), (2, .int x2), (3, .int x3)]) hx hb d_Rul_grants_75 hl (k := 4) rfl rfl (by decide) rfl (fun ls hl => ?_)
          refine lv_goto (tgt := 5) hx hb d_Rul_grants_78 (by decide) ?_
          exact kk5 i0 x1 x2 x3 (x4 + 1) σ h0 hF _ _ _ hP hD hS (lv_sub hl [1, 2, 3, 4, 0] rfl)
set_option maxHeartbeats 4000000 in
set_option maxRecDepth 100000 in
theorem T_Rul_grants {r : Int32} {σ' : ed_S} (B : ed_B p s m args meth c prog_5_method_3_code "ExecutiveDesk$RuleList" 5 D ca) (hr : meth.sig.returnType = (some .boolean)) (hA : ∀ q : Nat, s.heap.size ≤ q → A q) : ∀ (i0 : Nat) (x1 : Int32) (x2 : Int32) (σ : ed_S), i0 < 16 → F_Rul_grants  i0 x1 x2 σ = some (r, σ') → ed_G p l e rm_Rul_grants s m args below meth c D ca (ed_w ad ca) A (ed_QI D ca (ed_w ad ca) A below args s r σ') 5 0 [(0, .ref (ad (pRul i0))), (1, .int x1), (2, .int x2)] [] σ := by
  have hx := B.1
  have hb := B.2.1
  intro i0 x1 x2 σ h0 hF H locs ls hP hD hS hl
  have hF : (F_Rul_grants_5  ed_fu i0 x1 x2 x2 0 σ) = some (r, σ') := hF
  refine lv_iload_n hx hb d_Rul_grants_0 rfl (lv_at hl 2 rfl) ?_
  refine lv_istore_n (lv' := [(3, .int x2), (0, .ref (ad (pRul i0))), (1, .int x1), (2, .int x2)]) hx hb d_Rul_grants_1 rfl hl (by decide) rfl (fun ls hl => ?_)
  refine lv_iconst (v := 0) hx hb d_Rul_grants_2 (by decide) ?_
  refine lv_istore (lv' := [(4, .int 0), (3, .int x2), (0, .ref (ad (pRul i0))), (1, .int x1), (2, .int x2)]) hx hb d_Rul_grants_3 hl (by decide) rfl (fun ls hl => ?_)
  exact T_Rul_grants_5 B hr hA  ed_fu i0 x1 x2 x2 0 σ h0 hF _ _ _ hP hD hS (lv_sub hl [2, 3, 4, 1, 0] rfl)
set_option maxHeartbeats 4000000 in
set_option maxRecDepth 100000 in
theorem C_Rul_grants (l : Launch) (D : va_G) (ad : Nat → Nat) (ca : Nat → ClassId) (i0 : Nat) (x1 : Int32) (x2 : Int32) (σ : ed_S) (r : Int32) (σ' : ed_S) (h0 : i0 < 16) (hF : F_Rul_grants i0 x1 x2 σ = some (r, σ')) : ed_MI l y_Rul_grants ws_Rul_grants rm_Rul_grants D ca (ed_w ad ca) [.ref (ad (pRul i0)), .int x1, .int x2] σ r σ' := by
  refine ed_metI (cc := prog_5_method_3_code) (own := "ExecutiveDesk$RuleList") (nL := 5) (ret := (some .boolean)) (by decide) rfl rfl (Nat.le_of_ble_eq_true rfl) ?_
  intro p e s m args below meth c A B hr hA
  exact T_Rul_grants B hr hA i0 x1 x2 σ h0 hF
end EDT
