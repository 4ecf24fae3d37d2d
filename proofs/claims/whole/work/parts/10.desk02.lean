section EDT
variable {p : Program} {l : Launch} {e : Env} {s : State} {m : MethodId} {args : Array Value} {below : List Frame} {meth : Method} {c : Code} {D : va_G} {ad : Nat → Nat} {ca : Nat → ClassId} {A : Nat → Prop}
abbrev ws_Desk_opn : List Cond := Cond.code y_Desk_opn prog_1_method_5_code 6 (some .int) :: ed_tb
abbrev rm_Desk_opn : Room := { frames := 2, cells := 0, slots := 0, locals := 42 }
def F_Desk_opn (x1 : Int32) (x2 : Int32) (σ : ed_S) : Option (Int32 × ed_S) := (if (σ 5 0 0) = (-1) then (some ((-3), σ)) else (vB2 (F_Desk_isWithin x1 0 15 σ) fun r4 σ2 => (if r4 = 0 then (some ((-1), σ2)) else (vB2 (F_Desk_isWithin x2 1 7 σ2) fun r8 σ6 => (if r8 = 0 then (some ((-1), σ6)) else (vB2 (F_Desk_objectNamed x1 σ6) fun r12 σ10 => (if r12 = (-1) then (some ((-7), σ10)) else (vBr (F_Desk_processOfRunning  σ10) 4 fun j16 σ14 => (vG r12 16 fun j18 => (vB2 (F_Rul_grants j18 (σ14 19 j16 0) x2 σ14) fun r24 σ22 => (if r24 = 0 then (some ((-5), σ22)) else (vB2 (F_Proc_freeHandle j16 σ22) fun r28 σ26 => (if r28 = (-1) then (some ((-2), σ26)) else (vB1 (F_Desk_giveHandle j16 r28 r12 x2 σ26) fun σ30 => (some (r28, σ30))))))))))))))))
set_option maxHeartbeats 4000000 in
set_option maxRecDepth 100000 in
theorem T_Desk_opn {r : Int32} {σ' : ed_S} (B : ed_B p s m args meth c prog_1_method_5_code "ExecutiveDesk" 6 D ca) (hr : meth.sig.returnType = (some .int)) (hA : ∀ q : Nat, s.heap.size ≤ q → A q) : ∀ (x1 : Int32) (x2 : Int32) (σ : ed_S), F_Desk_opn  x1 x2 σ = some (r, σ') → ed_G p l e rm_Desk_opn s m args below meth c D ca (ed_w ad ca) A (ed_QI D ca (ed_w ad ca) A below args s r σ') 6 0 [(0, .ref (ad (pDesk 0))), (1, .int x1), (2, .int x2)] [] σ := by
  have hx := B.1
  have hb := B.2.1
  intro x1 x2 σ  hF H locs ls hP hD hS hl
  have hF : (if (σ 5 0 0) = (-1) then (some ((-3), σ)) else (vB2 (F_Desk_isWithin x1 0 15 σ) fun r4 σ2 => (if r4 = 0 then (some ((-1), σ2)) else (vB2 (F_Desk_isWithin x2 1 7 σ2) fun r8 σ6 => (if r8 = 0 then (some ((-1), σ6)) else (vB2 (F_Desk_objectNamed x1 σ6) fun r12 σ10 => (if r12 = (-1) then (some ((-7), σ10)) else (vBr (F_Desk_processOfRunning  σ10) 4 fun j16 σ14 => (vG r12 16 fun j18 => (vB2 (F_Rul_grants j18 (σ14 19 j16 0) x2 σ14) fun r24 σ22 => (if r24 = 0 then (some ((-5), σ22)) else (vB2 (F_Proc_freeHandle j16 σ22) fun r28 σ26 => (if r28 = (-1) then (some ((-2), σ26)) else (vB1 (F_Desk_giveHandle j16 r28 r12 x2 σ26) fun σ30 => (some (r28, σ30)))))))))))))))) = some (r, σ') := hF
  refine lv_aload_n hx hb d_Desk_opn_0 rfl (lv_at hl 0 rfl) ?_
  refine gf_Desk_scheduler B hP (by decide) L_Desk_18 d_Desk_opn_1 ?_
  refine gf_Sched_running B hP (by decide) L_Desk_92 d_Desk_opn_4 ?_
  refine lv_iconst (v := (-1)) hx hb d_Desk_opn_7 (by decide) ?_
  refine lv_icmp_ne (tgt := 14) hx hb d_Desk_opn_8 (by decide) (fun c1 => ?_) (fun c1 => ?_)
  · have hF := vIf c1 hF
    refine lv_iload_n hx hb d_Desk_opn_14 rfl (lv_at hl 1 rfl) ?_
    refine lv_iconst (v := 0) hx hb d_Desk_opn_15 (by decide) ?_
    refine lv_bipush (v := 15) hx hb d_Desk_opn_16 (by decide) ?_
    obtain ⟨r4, σ2, q3, hF⟩ := vB2_some hF
    refine ed_csI (As := [.int x1, .int 0, .int 15]) (rest := []) B hP hD hS hA (C_Desk_isWithin l D ad ca x1 0 15 σ r4 σ2  q3) me_Desk_isWithin st_Desk_isWithin L_Desk_54 ⟨rfl, rfl⟩ ⟨Nat.le_of_ble_eq_true rfl, Nat.le_of_ble_eq_true rfl⟩ rfl rfl hl.1 (lv_room (Nat.le_of_ble_eq_true rfl)) d_Desk_opn_18 (fun H locs hP hD hS => ?_)
    refine lv_if_eq (tgt := 34) hx hb d_Desk_opn_21 (by decide) (fun c5 => ?_) (fun c5 => ?_)
    · have hF := vIt c5 hF
      refine lv_iconst (v := (-1)) hx hb d_Desk_opn_34 (by decide) ?_
      exact ed_rI B hr hA hP hD hS (vP hF) d_Desk_opn_35
    · have hF := vIf c5 hF
      refine lv_iload_n hx hb d_Desk_opn_24 rfl (lv_at hl 2 rfl) ?_
      refine lv_iconst (v := 1) hx hb d_Desk_opn_25 (by decide) ?_
      refine lv_bipush (v := 7) hx hb d_Desk_opn_26 (by decide) ?_
      obtain ⟨r8, σ6, q7, hF⟩ := vB2_some hF
      refine ed_csI (As := [.int x2, .int 1, .int 7]) (rest := []) B hP hD hS hA (C_Desk_isWithin l D ad ca x2 1 7 σ2 r8 σ6  q7) me_Desk_isWithin st_Desk_isWithin L_Desk_54 ⟨rfl, rfl⟩ ⟨Nat.le_of_ble_eq_true rfl, Nat.le_of_ble_eq_true rfl⟩ rfl rfl hl.1 (lv_room (Nat.le_of_ble_eq_true rfl)) d_Desk_opn_28 (fun H locs hP hD hS => ?_)
      refine lv_if_ne (tgt := 36) hx hb d_Desk_opn_31 (by decide) (fun c9 => ?_) (fun c9 => ?_)
      · have hF := vIf c9 hF
        refine lv_aload_n hx hb d_Desk_opn_36 rfl (lv_at hl 0 rfl) ?_
        refine lv_iload_n hx hb d_Desk_opn_37 rfl (lv_at hl 1 rfl) ?_
        obtain ⟨r12, σ10, q11, hF⟩ := vB2_some hF
        refine ed_cvI (As := [.int x1]) (rest := []) B hP hD hS hA (C_Desk_objectNamed l D ad ca x1 σ6 r12 σ10  q11) me_Desk_objectNamed mv_Desk_objectNamed L_Desk_99 (ed_rc_Desk B hP (by decide)) ⟨rfl, rfl⟩ ⟨Nat.le_of_ble_eq_true rfl, Nat.le_of_ble_eq_true rfl⟩ rfl rfl hl.1 (lv_room (Nat.le_of_ble_eq_true rfl)) d_Desk_opn_38 (fun H locs hP hD hS => ?_)
        refine lv_istore_n (lv' := [(3, .int r12), (0, .ref (ad (pDesk 0))), (1, .int x1), (2, .int x2)]) hx hb d_Desk_opn_41 rfl hl (by decide) rfl (fun ls hl => ?_)
        refine lv_iload_n hx hb d_Desk_opn_42 rfl (lv_at hl 0 rfl) ?_
        refine lv_iconst (v := (-1)) hx hb d_Desk_opn_43 (by decide) ?_
        refine lv_icmp_ne (tgt := 50) hx hb d_Desk_opn_44 (by decide) (fun c13 => ?_) (fun c13 => ?_)
        · have hF := vIf c13 hF
          refine lv_aload_n hx hb d_Desk_opn_50 rfl (lv_at hl 1 rfl) ?_
          obtain ⟨j16, σ14, q15, hj17, hF⟩ := vBr_some hF
          refine ed_cvR (As := []) (rest := []) B hP hD hS hA (C_Desk_processOfRunning l D ad ca  σ10 j16 σ14  q15) me_Desk_processOfRunning mv_Desk_processOfRunning L_Desk_102 (ed_rc_Desk B hP (by decide)) ⟨rfl, rfl⟩ ⟨Nat.le_of_ble_eq_true rfl, Nat.le_of_ble_eq_true rfl⟩ rfl rfl hl.1 (lv_room (Nat.le_of_ble_eq_true rfl)) d_Desk_opn_51 (fun H locs hP hD hS => ?_)
          refine lv_astore (lv' := [(4, .ref (ad (pProc j16))), (3, .int r12), (0, .ref (ad (pDesk 0))), (1, .int x1), (2, .int x2)]) hx hb d_Desk_opn_54 hl (by decide) rfl (fun ls hl => ?_)
          refine lv_aload_n hx hb d_Desk_opn_56 rfl (lv_at hl 2 rfl) ?_
          refine gf_Desk_objects B hP (by decide) L_Desk_29 d_Desk_opn_57 ?_
          refine lv_iload_n hx hb d_Desk_opn_60 rfl (lv_at hl 1 rfl) ?_
          obtain ⟨j18, ej19, hj20, hn21, hF⟩ := vG_some hF
          refine al_AObj B hP (by decide) hn21 ej19 hj20 d_Desk_opn_61 ?_
          refine gf_Obj_rules B hP hj20 L_Desk_124 d_Desk_opn_62 ?_
          refine lv_aload hx hb d_Desk_opn_65 (lv_at hl 0 rfl) ?_
          refine gf_Proc_groups B hP hj17 L_Desk_62 d_Desk_opn_67 ?_
          refine lv_iload_n hx hb d_Desk_opn_70 rfl (lv_at hl 4 rfl) ?_
          obtain ⟨r24, σ22, q23, hF⟩ := vB2_some hF
          refine ed_cvI (As := [.int (σ14 19 j16 0), .int x2]) (rest := []) B hP hD hS hA (C_Rul_grants l D ad ca j18 (σ14 19 j16 0) x2 σ14 r24 σ22 hj20 q23) me_Rul_grants mv_Rul_grants L_Desk_128 (ed_rc_Rul B hP hj20) ⟨rfl, rfl⟩ ⟨Nat.le_of_ble_eq_true rfl, Nat.le_of_ble_eq_true rfl⟩ rfl rfl hl.1 (lv_room (Nat.le_of_ble_eq_true rfl)) d_Desk_opn_71 (fun H locs hP hD hS => ?_)
          refine lv_if_ne (tgt := 80) hx hb d_Desk_opn_74 (by decide) (fun c25 => ?_) (fun c25 => ?_)
          · have hF := vIf c25 hF
            refine lv_aload hx hb d_Desk_opn_80 (lv_at hl 0 rfl) ?_
            obtain ⟨r28, σ26, q27, hF⟩ := vB2_some hF
            refine ed_cvI (As := []) (rest := []) B hP hD hS hA (C_Proc_freeHandle l D ad ca j16 σ22 r28 σ26 hj17 q27) me_Proc_freeHandle mv_Proc_freeHandle L_Desk_106 (ed_rc_Proc B hP hj17) ⟨rfl, rfl⟩ ⟨Nat.le_of_ble_eq_true rfl, Nat.le_of_ble_eq_true rfl⟩ rfl rfl hl.1 (lv_room (Nat.le_of_ble_eq_true rfl)) d_Desk_opn_82 (fun H locs hP hD hS => ?_)
            refine lv_istore (lv' := [(5, .int r28), (4, .ref (ad (pProc j16))), (3, .int r12), (0, .ref (ad (pDesk 0))), (1, .int x1), (2, .int x2)]) hx hb d_Desk_opn_85 hl (by decide) rfl (fun ls hl => ?_)
            refine lv_iload hx hb d_Desk_opn_87 (lv_at hl 0 rfl) ?_
            refine lv_iconst (v := (-1)) hx hb d_Desk_opn_89 (by decide) ?_
            refine lv_icmp_ne (tgt := 96) hx hb d_Desk_opn_90 (by decide) (fun c29 => ?_) (fun c29 => ?_)
            · have hF := vIf c29 hF
              refine lv_aload_n hx hb d_Desk_opn_96 rfl (lv_at hl 3 rfl) ?_
              refine lv_aload hx hb d_Desk_opn_97 (lv_at hl 1 rfl) ?_
              refine lv_iload hx hb d_Desk_opn_99 (lv_at hl 0 rfl) ?_
              refine lv_iload_n hx hb d_Desk_opn_101 rfl (lv_at hl 2 rfl) ?_
              refine lv_iload_n hx hb d_Desk_opn_102 rfl (lv_at hl 5 rfl) ?_
              obtain ⟨σ30, q31, hF⟩ := vB1_some hF
              refine ed_cvV (As := [.ref (ad (pProc j16)), .int r28, .int r12, .int x2]) (rest := []) B hP hD hS hA (C_Desk_giveHandle l D ad ca j16 r28 r12 x2 σ26 σ30 hj17 q31) me_Desk_giveHandle mv_Desk_giveHandle L_Desk_120 (ed_rc_Desk B hP (by decide)) ⟨rfl, rfl⟩ ⟨Nat.le_of_ble_eq_true rfl, Nat.le_of_ble_eq_true rfl⟩ rfl rfl hl.1 (lv_room (Nat.le_of_ble_eq_true rfl)) d_Desk_opn_103 (fun H locs hP hD hS => ?_)
              refine lv_iload hx hb d_Desk_opn_106 (lv_at hl 0 rfl) ?_
              exact ed_rI B hr hA hP hD hS (vP hF) d_Desk_opn_108
            · have hF := vIt c29 hF
              refine lv_bipush (v := (-2)) hx hb d_Desk_opn_93 (by decide) ?_
              exact ed_rI B hr hA hP hD hS (vP hF) d_Desk_opn_95
          · have hF := vIt c25 hF
            refine lv_bipush (v := (-5)) hx hb d_Desk_opn_77 (by decide) ?_
            exact ed_rI B hr hA hP hD hS (vP hF) d_Desk_opn_79
        · have hF := vIt c13 hF
          refine lv_bipush (v := (-7)) hx hb d_Desk_opn_47 (by decide) ?_
          exact ed_rI B hr hA hP hD hS (vP hF) d_Desk_opn_49
      · have hF := vIt c9 hF
        refine lv_iconst (v := (-1)) hx hb d_Desk_opn_34 (by decide) ?_
        exact ed_rI B hr hA hP hD hS (vP hF) d_Desk_opn_35
  · have hF := vIt c1 hF
    refine lv_bipush (v := (-3)) hx hb d_Desk_opn_11 (by decide) ?_
    exact ed_rI B hr hA hP hD hS (vP hF) d_Desk_opn_13
set_option maxHeartbeats 4000000 in
set_option maxRecDepth 100000 in
theorem C_Desk_opn (l : Launch) (D : va_G) (ad : Nat → Nat) (ca : Nat → ClassId) (x1 : Int32) (x2 : Int32) (σ : ed_S) (r : Int32) (σ' : ed_S) (hF : F_Desk_opn x1 x2 σ = some (r, σ')) : ed_MI l y_Desk_opn ws_Desk_opn rm_Desk_opn D ca (ed_w ad ca) [.ref (ad (pDesk 0)), .int x1, .int x2] σ r σ' := by
  refine ed_metI (cc := prog_1_method_5_code) (own := "ExecutiveDesk") (nL := 6) (ret := (some .int)) (by decide) rfl rfl (Nat.le_of_ble_eq_true rfl) ?_
  intro p e s m args below meth c A B hr hA
  exact T_Desk_opn B hr hA x1 x2 σ  hF
abbrev ws_Proc_objectOf : List Cond := Cond.code y_Proc_objectOf prog_3_method_3_code 2 (some .int) :: ed_tb
abbrev rm_Proc_objectOf : Room := { frames := 1, cells := 0, slots := 0, locals := 22 }
def F_Proc_objectOf (i0 : Nat) (x1 : Int32) (σ : ed_S) : Option (Int32 × ed_S) := (vB2 (F_Desk_isWithin x1 0 7 σ) fun r3 σ1 => (if r3 = 0 then (some ((-1), σ1)) else (vG x1 8 fun j5 => (some ((σ1 41 i0 j5), σ1)))))
set_option maxHeartbeats 4000000 in
set_option maxRecDepth 100000 in
theorem T_Proc_objectOf {r : Int32} {σ' : ed_S} (B : ed_B p s m args meth c prog_3_method_3_code "ExecutiveDesk$ProcessState" 2 D ca) (hr : meth.sig.returnType = (some .int)) (hA : ∀ q : Nat, s.heap.size ≤ q → A q) : ∀ (i0 : Nat) (x1 : Int32) (σ : ed_S), i0 < 4 → F_Proc_objectOf  i0 x1 σ = some (r, σ') → ed_G p l e rm_Proc_objectOf s m args below meth c D ca (ed_w ad ca) A (ed_QI D ca (ed_w ad ca) A below args s r σ') 2 0 [(0, .ref (ad (pProc i0))), (1, .int x1)] [] σ := by
  have hx := B.1
  have hb := B.2.1
  intro i0 x1 σ h0 hF H locs ls hP hD hS hl
  have hF : (vB2 (F_Desk_isWithin x1 0 7 σ) fun r3 σ1 => (if r3 = 0 then (some ((-1), σ1)) else (vG x1 8 fun j5 => (some ((σ1 41 i0 j5), σ1))))) = some (r, σ') := hF
  refine lv_iload_n hx hb d_Proc_objectOf_0 rfl (lv_at hl 1 rfl) ?_
  refine lv_iconst (v := 0) hx hb d_Proc_objectOf_1 (by decide) ?_
  refine lv_bipush (v := 7) hx hb d_Proc_objectOf_2 (by decide) ?_
  obtain ⟨r3, σ1, q2, hF⟩ := vB2_some hF
  refine ed_cnI (As := [.int x1, .int 0, .int 7]) (rest := []) B hP hD hS hA (C_Desk_isWithin l D ad ca x1 0 7 σ r3 σ1  q2) me_Desk_isWithin st_Desk_isWithin rfl ⟨rfl, rfl⟩ ⟨Nat.le_of_ble_eq_true rfl, Nat.le_of_ble_eq_true rfl⟩ rfl rfl hl.1 (lv_room (Nat.le_of_ble_eq_true rfl)) d_Proc_objectOf_4 (fun H locs hP hD hS => ?_)
  refine lv_if_eq (tgt := 19) hx hb d_Proc_objectOf_7 (by decide) (fun c4 => ?_) (fun c4 => ?_)
  · have hF := vIt c4 hF
    refine lv_iconst (v := (-1)) hx hb d_Proc_objectOf_19 (by decide) ?_
    exact ed_rI B hr hA hP hD hS (vP hF) d_Proc_objectOf_20
  · have hF := vIf c4 hF
    refine lv_aload_n hx hb d_Proc_objectOf_10 rfl (lv_at hl 0 rfl) ?_
    refine gf_Proc_handleObjects B hP h0 L_Proc_9 d_Proc_objectOf_11 ?_
    refine lv_iload_n hx hb d_Proc_objectOf_14 rfl (lv_at hl 1 rfl) ?_
    obtain ⟨j5, ej6, hj7, hn8, hF⟩ := vG_some hF
    refine il_PHo B hP h0 hn8 ej6 d_Proc_objectOf_15 ?_
    refine lv_goto (tgt := 20) hx hb d_Proc_objectOf_16 (by decide) ?_
    exact ed_rI B hr hA hP hD hS (vP hF) d_Proc_objectOf_20
set_option maxHeartbeats 4000000 in
set_option maxRecDepth 100000 in
theorem C_Proc_objectOf (l : Launch) (D : va_G) (ad : Nat → Nat) (ca : Nat → ClassId) (i0 : Nat) (x1 : Int32) (σ : ed_S) (r : Int32) (σ' : ed_S) (h0 : i0 < 4) (hF : F_Proc_objectOf i0 x1 σ = some (r, σ')) : ed_MI l y_Proc_objectOf ws_Proc_objectOf rm_Proc_objectOf D ca (ed_w ad ca) [.ref (ad (pProc i0)), .int x1] σ r σ' := by
  refine ed_metI (cc := prog_3_method_3_code) (own := "ExecutiveDesk$ProcessState") (nL := 2) (ret := (some .int)) (by decide) rfl rfl (Nat.le_of_ble_eq_true rfl) ?_
  intro p e s m args below meth c A B hr hA
  exact T_Proc_objectOf B hr hA i0 x1 σ h0 hF
abbrev ws_Desk_dropHandle : List Cond := Cond.code y_Desk_dropHandle prog_1_method_36_code 3 none :: ed_tb
abbrev rm_Desk_dropHandle : Room := { frames := 0, cells := 0, slots := 0, locals := 0 }
def F_Desk_dropHandle (i1 : Nat) (x2 : Int32) (σ : ed_S) : Option ed_S := (vG x2 8 fun j1 => (vG (σ 41 i1 j1) 16 fun j5 => (vL (ed_st σ 24 j5 0 ((σ 24 j5 0) - 1)) fun σ9 => (vG x2 8 fun j11 => vL (ed_st σ9 41 i1 j11 (-1)) fun σ15 => (some σ15)))))
set_option maxHeartbeats 4000000 in
set_option maxRecDepth 100000 in
theorem T_Desk_dropHandle {σ' : ed_S} (B : ed_B p s m args meth c prog_1_method_36_code "ExecutiveDesk" 3 D ca) (hr : meth.sig.returnType = none) (hA : ∀ q : Nat, s.heap.size ≤ q → A q) : ∀ (i1 : Nat) (x2 : Int32) (σ : ed_S), i1 < 4 → F_Desk_dropHandle  i1 x2 σ = some σ' → ed_G p l e rm_Desk_dropHandle s m args below meth c D ca (ed_w ad ca) A (ed_QV D ca (ed_w ad ca) A below args s σ') 3 0 [(0, .ref (ad (pDesk 0))), (1, .ref (ad (pProc i1))), (2, .int x2)] [] σ := by
  have hx := B.1
  have hb := B.2.1
  intro i1 x2 σ h1 hF H locs ls hP hD hS hl
  have hF : (vG x2 8 fun j1 => (vG (σ 41 i1 j1) 16 fun j5 => (vL (ed_st σ 24 j5 0 ((σ 24 j5 0) - 1)) fun σ9 => (vG x2 8 fun j11 => vL (ed_st σ9 41 i1 j11 (-1)) fun σ15 => (some σ15))))) = some σ' := hF
  refine lv_aload_n hx hb d_Desk_dropHandle_0 rfl (lv_at hl 0 rfl) ?_
  refine gf_Desk_objects B hP (by decide) L_Desk_29 d_Desk_dropHandle_1 ?_
  refine lv_aload_n hx hb d_Desk_dropHandle_4 rfl (lv_at hl 1 rfl) ?_
  refine gf_Proc_handleObjects B hP h1 L_Desk_324 d_Desk_dropHandle_5 ?_
  refine lv_iload_n hx hb d_Desk_dropHandle_8 rfl (lv_at hl 2 rfl) ?_
  obtain ⟨j1, ej2, hj3, hn4, hF⟩ := vG_some hF
  refine il_PHo B hP h1 hn4 ej2 d_Desk_dropHandle_9 ?_
  obtain ⟨j5, ej6, hj7, hn8, hF⟩ := vG_some hF
  refine al_AObj B hP (by decide) hn8 ej6 hj7 d_Desk_dropHandle_10 ?_
  refine lv_dup hx hb d_Desk_dropHandle_11 rfl ?_
  refine gf_Obj_handles B hP hj7 L_Desk_141 d_Desk_dropHandle_12 ?_
  refine lv_iconst (v := 1) hx hb d_Desk_dropHandle_15 (by decide) ?_
  refine lv_isub hx hb d_Desk_dropHandle_16 ?_
  obtain ⟨σ9, e10, hF⟩ := vL_some hF
  refine pf_Obj_handles B hP hD hS hj7 e10 L_Desk_141 d_Desk_dropHandle_17 (fun H locs hP hD hS => ?_)
  refine lv_aload_n hx hb d_Desk_dropHandle_20 rfl (lv_at hl 1 rfl) ?_
  refine gf_Proc_handleObjects B hP h1 L_Desk_324 d_Desk_dropHandle_21 ?_
  refine lv_iload_n hx hb d_Desk_dropHandle_24 rfl (lv_at hl 2 rfl) ?_
  refine lv_iconst (v := (-1)) hx hb d_Desk_dropHandle_25 (by decide) ?_
  obtain ⟨j11, ej12, hj13, hn14, hF⟩ := vG_some hF
  obtain ⟨σ15, e16, hF⟩ := vL_some hF
  refine is_PHo B hP hD hS h1 hn14 ej12 e16 d_Desk_dropHandle_26 (fun H locs hP hD hS => ?_)
  exact ed_rV B hr hA hP hD hS (Option.some.inj hF) d_Desk_dropHandle_27
set_option maxHeartbeats 4000000 in
set_option maxRecDepth 100000 in
theorem C_Desk_dropHandle (l : Launch) (D : va_G) (ad : Nat → Nat) (ca : Nat → ClassId) (i1 : Nat) (x2 : Int32) (σ : ed_S) (σ' : ed_S) (h1 : i1 < 4) (hF : F_Desk_dropHandle i1 x2 σ = some σ') : ed_MV l y_Desk_dropHandle ws_Desk_dropHandle rm_Desk_dropHandle D ca (ed_w ad ca) [.ref (ad (pDesk 0)), .ref (ad (pProc i1)), .int x2] σ σ' := by
  refine ed_metV (cc := prog_1_method_36_code) (own := "ExecutiveDesk") (nL := 3) (ret := none) (by decide) rfl rfl (Nat.le_of_ble_eq_true rfl) ?_
  intro p e s m args below meth c A B hr hA
  exact T_Desk_dropHandle B hr hA i1 x2 σ h1 hF
abbrev ws_Desk_clse : List Cond := Cond.code y_Desk_clse prog_1_method_6_code 4 (some .int) :: ed_tb
abbrev rm_Desk_clse : Room := { frames := 2, cells := 0, slots := 0, locals := 43 }
def F_Desk_clse (x1 : Int32) (σ : ed_S) : Option (Int32 × ed_S) := (if (σ 5 0 0) = (-1) then (some ((-3), σ)) else (vBr (F_Desk_processOfRunning  σ) 4 fun j4 σ2 => (vB2 (F_Proc_objectOf j4 x1 σ2) fun r8 σ6 => (if r8 = (-1) then (some ((-1), σ6)) else (vB1 (F_Desk_dropHandle j4 x1 σ6) fun σ10 => (vG r8 16 fun j12 => (some ((σ10 24 j12 0), σ10))))))))
set_option maxHeartbeats 4000000 in
set_option maxRecDepth 100000 in
theorem T_Desk_clse {r : Int32} {σ' : ed_S} (B : ed_B p s m args meth c prog_1_method_6_code "ExecutiveDesk" 4 D ca) (hr : meth.sig.returnType = (some .int)) (hA : ∀ q : Nat, s.heap.size ≤ q → A q) : ∀ (x1 : Int32) (σ : ed_S), F_Desk_clse  x1 σ = some (r, σ') → ed_G p l e rm_Desk_clse s m args below meth c D ca (ed_w ad ca) A (ed_QI D ca (ed_w ad ca) A below args s r σ') 4 0 [(0, .ref (ad (pDesk 0))), (1, .int x1)] [] σ := by
  have hx := B.1
  have hb := B.2.1
  intro x1 σ  hF H locs ls hP hD hS hl
  have hF : (if (σ 5 0 0) = (-1) then (some ((-3), σ)) else (vBr (F_Desk_processOfRunning  σ) 4 fun j4 σ2 => (vB2 (F_Proc_objectOf j4 x1 σ2) fun r8 σ6 => (if r8 = (-1) then (some ((-1), σ6)) else (vB1 (F_Desk_dropHandle j4 x1 σ6) fun σ10 => (vG r8 16 fun j12 => (some ((σ10 24 j12 0), σ10)))))))) = some (r, σ') := hF
  refine lv_aload_n hx hb d_Desk_clse_0 rfl (lv_at hl 0 rfl) ?_
  refine gf_Desk_scheduler B hP (by decide) L_Desk_18 d_Desk_clse_1 ?_
  refine gf_Sched_running B hP (by decide) L_Desk_92 d_Desk_clse_4 ?_
  refine lv_iconst (v := (-1)) hx hb d_Desk_clse_7 (by decide) ?_
  refine lv_icmp_ne (tgt := 14) hx hb d_Desk_clse_8 (by decide) (fun c1 => ?_) (fun c1 => ?_)
  · have hF := vIf c1 hF
    refine lv_aload_n hx hb d_Desk_clse_14 rfl (lv_at hl 0 rfl) ?_
    obtain ⟨j4, σ2, q3, hj5, hF⟩ := vBr_some hF
    refine ed_cvR (As := []) (rest := []) B hP hD hS hA (C_Desk_processOfRunning l D ad ca  σ j4 σ2  q3) me_Desk_processOfRunning mv_Desk_processOfRunning L_Desk_102 (ed_rc_Desk B hP (by decide)) ⟨rfl, rfl⟩ ⟨Nat.le_of_ble_eq_true rfl, Nat.le_of_ble_eq_true rfl⟩ rfl rfl hl.1 (lv_room (Nat.le_of_ble_eq_true rfl)) d_Desk_clse_15 (fun H locs hP hD hS => ?_)
    refine lv_astore_n (lv' := [(2, .ref (ad (pProc j4))), (0, .ref (ad (pDesk 0))), (1, .int x1)]) hx hb d_Desk_clse_18 rfl hl (by decide) rfl (fun ls hl => ?_)
    refine lv_aload_n hx hb d_Desk_clse_19 rfl (lv_at hl 0 rfl) ?_
    refine lv_iload_n hx hb d_Desk_clse_20 rfl (lv_at hl 2 rfl) ?_
    obtain ⟨r8, σ6, q7, hF⟩ := vB2_some hF
    refine ed_cvI (As := [.int x1]) (rest := []) B hP hD hS hA (C_Proc_objectOf l D ad ca j4 x1 σ2 r8 σ6 hj5 q7) me_Proc_objectOf mv_Proc_objectOf L_Desk_134 (ed_rc_Proc B hP hj5) ⟨rfl, rfl⟩ ⟨Nat.le_of_ble_eq_true rfl, Nat.le_of_ble_eq_true rfl⟩ rfl rfl hl.1 (lv_room (Nat.le_of_ble_eq_true rfl)) d_Desk_clse_21 (fun H locs hP hD hS => ?_)
    refine lv_istore_n (lv' := [(3, .int r8), (2, .ref (ad (pProc j4))), (0, .ref (ad (pDesk 0))), (1, .int x1)]) hx hb d_Desk_clse_24 rfl hl (by decide) rfl (fun ls hl => ?_)
    refine lv_iload_n hx hb d_Desk_clse_25 rfl (lv_at hl 0 rfl) ?_
    refine lv_iconst (v := (-1)) hx hb d_Desk_clse_26 (by decide) ?_
    refine lv_icmp_ne (tgt := 32) hx hb d_Desk_clse_27 (by decide) (fun c9 => ?_) (fun c9 => ?_)
    · have hF := vIf c9 hF
      refine lv_aload_n hx hb d_Desk_clse_32 rfl (lv_at hl 2 rfl) ?_
      refine lv_aload_n hx hb d_Desk_clse_33 rfl (lv_at hl 1 rfl) ?_
      refine lv_iload_n hx hb d_Desk_clse_34 rfl (lv_at hl 3 rfl) ?_
      obtain ⟨σ10, q11, hF⟩ := vB1_some hF
      refine ed_cvV (As := [.ref (ad (pProc j4)), .int x1]) (rest := []) B hP hD hS hA (C_Desk_dropHandle l D ad ca j4 x1 σ6 σ10 hj5 q11) me_Desk_dropHandle mv_Desk_dropHandle L_Desk_137 (ed_rc_Desk B hP (by decide)) ⟨rfl, rfl⟩ ⟨Nat.le_of_ble_eq_true rfl, Nat.le_of_ble_eq_true rfl⟩ rfl rfl hl.1 (lv_room (Nat.le_of_ble_eq_true rfl)) d_Desk_clse_35 (fun H locs hP hD hS => ?_)
      refine lv_aload_n hx hb d_Desk_clse_38 rfl (lv_at hl 2 rfl) ?_
      refine gf_Desk_objects B hP (by decide) L_Desk_29 d_Desk_clse_39 ?_
      refine lv_iload_n hx hb d_Desk_clse_42 rfl (lv_at hl 0 rfl) ?_
      obtain ⟨j12, ej13, hj14, hn15, hF⟩ := vG_some hF
      refine al_AObj B hP (by decide) hn15 ej13 hj14 d_Desk_clse_43 ?_
      refine gf_Obj_handles B hP hj14 L_Desk_141 d_Desk_clse_44 ?_
      exact ed_rI B hr hA hP hD hS (vP hF) d_Desk_clse_47
    · have hF := vIt c9 hF
      refine lv_iconst (v := (-1)) hx hb d_Desk_clse_30 (by decide) ?_
      exact ed_rI B hr hA hP hD hS (vP hF) d_Desk_clse_31
  · have hF := vIt c1 hF
    refine lv_bipush (v := (-3)) hx hb d_Desk_clse_11 (by decide) ?_
    exact ed_rI B hr hA hP hD hS (vP hF) d_Desk_clse_13
set_option maxHeartbeats 4000000 in
set_option maxRecDepth 100000 in
theorem C_Desk_clse (l : Launch) (D : va_G) (ad : Nat → Nat) (ca : Nat → ClassId) (x1 : Int32) (σ : ed_S) (r : Int32) (σ' : ed_S) (hF : F_Desk_clse x1 σ = some (r, σ')) : ed_MI l y_Desk_clse ws_Desk_clse rm_Desk_clse D ca (ed_w ad ca) [.ref (ad (pDesk 0)), .int x1] σ r σ' := by
  refine ed_metI (cc := prog_1_method_6_code) (own := "ExecutiveDesk") (nL := 4) (ret := (some .int)) (by decide) rfl rfl (Nat.le_of_ble_eq_true rfl) ?_
  intro p e s m args below meth c A B hr hA
  exact T_Desk_clse B hr hA x1 σ  hF
abbrev ws_Proc_rightsOf : List Cond := Cond.code y_Proc_rightsOf prog_3_method_4_code 2 (some .int) :: ed_tb
abbrev rm_Proc_rightsOf : Room := { frames := 1, cells := 0, slots := 0, locals := 22 }
def F_Proc_rightsOf (i0 : Nat) (x1 : Int32) (σ : ed_S) : Option (Int32 × ed_S) := (vB2 (F_Desk_isWithin x1 0 7 σ) fun r3 σ1 => (if r3 = 0 then (some (0, σ1)) else (vG x1 8 fun j5 => (some ((σ1 42 i0 j5), σ1)))))
set_option maxHeartbeats 4000000 in
set_option maxRecDepth 100000 in
theorem T_Proc_rightsOf {r : Int32} {σ' : ed_S} (B : ed_B p s m args meth c prog_3_method_4_code "ExecutiveDesk$ProcessState" 2 D ca) (hr : meth.sig.returnType = (some .int)) (hA : ∀ q : Nat, s.heap.size ≤ q → A q) : ∀ (i0 : Nat) (x1 : Int32) (σ : ed_S), i0 < 4 → F_Proc_rightsOf  i0 x1 σ = some (r, σ') → ed_G p l e rm_Proc_rightsOf s m args below meth c D ca (ed_w ad ca) A (ed_QI D ca (ed_w ad ca) A below args s r σ') 2 0 [(0, .ref (ad (pProc i0))), (1, .int x1)] [] σ := by
  have hx := B.1
  have hb := B.2.1
  intro i0 x1 σ h0 hF H locs ls hP hD hS hl
  have hF : (vB2 (F_Desk_isWithin x1 0 7 σ) fun r3 σ1 => (if r3 = 0 then (some (0, σ1)) else (vG x1 8 fun j5 => (some ((σ1 42 i0 j5), σ1))))) = some (r, σ') := hF
  refine lv_iload_n hx hb d_Proc_rightsOf_0 rfl (lv_at hl 1 rfl) ?_
  refine lv_iconst (v := 0) hx hb d_Proc_rightsOf_1 (by decide) ?_
  refine lv_bipush (v := 7) hx hb d_Proc_rightsOf_2 (by decide) ?_
  obtain ⟨r3, σ1, q2, hF⟩ := vB2_some hF
  refine ed_cnI (As := [.int x1, .int 0, .int 7]) (rest := []) B hP hD hS hA (C_Desk_isWithin l D ad ca x1 0 7 σ r3 σ1  q2) me_Desk_isWithin st_Desk_isWithin rfl ⟨rfl, rfl⟩ ⟨Nat.le_of_ble_eq_true rfl, Nat.le_of_ble_eq_true rfl⟩ rfl rfl hl.1 (lv_room (Nat.le_of_ble_eq_true rfl)) d_Proc_rightsOf_4 (fun H locs hP hD hS => ?_)
  refine lv_if_eq (tgt := 19) hx hb d_Proc_rightsOf_7 (by decide) (fun c4 => ?_) (fun c4 => ?_)
  · have hF := vIt c4 hF
    refine lv_iconst (v := 0) hx hb d_Proc_rightsOf_19 (by decide) ?_
    exact ed_rI B hr hA hP hD hS (vP hF) d_Proc_rightsOf_20
  · have hF := vIf c4 hF
    refine lv_aload_n hx hb d_Proc_rightsOf_10 rfl (lv_at hl 0 rfl) ?_
    refine gf_Proc_handleRights B hP h0 L_Proc_15 d_Proc_rightsOf_11 ?_
    refine lv_iload_n hx hb d_Proc_rightsOf_14 rfl (lv_at hl 1 rfl) ?_
    obtain ⟨j5, ej6, hj7, hn8, hF⟩ := vG_some hF
    refine il_PRi B hP h0 hn8 ej6 d_Proc_rightsOf_15 ?_
    refine lv_goto (tgt := 20) hx hb d_Proc_rightsOf_16 (by decide) ?_
    exact ed_rI B hr hA hP hD hS (vP hF) d_Proc_rightsOf_20
set_option maxHeartbeats 4000000 in
set_option maxRecDepth 100000 in
theorem C_Proc_rightsOf (l : Launch) (D : va_G) (ad : Nat → Nat) (ca : Nat → ClassId) (i0 : Nat) (x1 : Int32) (σ : ed_S) (r : Int32) (σ' : ed_S) (h0 : i0 < 4) (hF : F_Proc_rightsOf i0 x1 σ = some (r, σ')) : ed_MI l y_Proc_rightsOf ws_Proc_rightsOf rm_Proc_rightsOf D ca (ed_w ad ca) [.ref (ad (pProc i0)), .int x1] σ r σ' := by
  refine ed_metI (cc := prog_3_method_4_code) (own := "ExecutiveDesk$ProcessState") (nL := 2) (ret := (some .int)) (by decide) rfl rfl (Nat.le_of_ble_eq_true rfl) ?_
  intro p e s m args below meth c A B hr hA
  exact T_Proc_rightsOf B hr hA i0 x1 σ h0 hF
abbrev ws_Proc_lacks : List Cond := Cond.code y_Proc_lacks prog_3_method_5_code 3 (some .boolean) :: ed_tb
abbrev rm_Proc_lacks : Room := { frames := 2, cells := 0, slots := 0, locals := 43 }
def F_Proc_lacks (i0 : Nat) (x1 : Int32) (x2 : Int32) (σ : ed_S) : Option (Int32 × ed_S) := (vB2 (F_Proc_objectOf i0 x1 σ) fun r3 σ1 => (if r3 = (-1) then (some (0, σ1)) else (vB2 (F_Proc_rightsOf i0 x1 σ1) fun r7 σ5 => (if (r7 &&& x2) = 0 then (some (1, σ5)) else (some (0, σ5))))))
set_option maxHeartbeats 4000000 in
set_option maxRecDepth 100000 in
theorem T_Proc_lacks {r : Int32} {σ' : ed_S} (B : ed_B p s m args meth c prog_3_method_5_code "ExecutiveDesk$ProcessState" 3 D ca) (hr : meth.sig.returnType = (some .boolean)) (hA : ∀ q : Nat, s.heap.size ≤ q → A q) : ∀ (i0 : Nat) (x1 : Int32) (x2 : Int32) (σ : ed_S), i0 < 4 → F_Proc_lacks  i0 x1 x2 σ = some (r, σ') → ed_G p l e rm_Proc_lacks s m args below meth c D ca (ed_w ad ca) A (ed_QI D ca (ed_w ad ca) A below args s r σ') 3 0 [(0, .ref (ad (pProc i0))), (1, .int x1), (2, .int x2)] [] σ := by
  have hx := B.1
  have hb := B.2.1
  intro i0 x1 x2 σ h0 hF H locs ls hP hD hS hl
  have hF : (vB2 (F_Proc_objectOf i0 x1 σ) fun r3 σ1 => (if r3 = (-1) then (some (0, σ1)) else (vB2 (F_Proc_rightsOf i0 x1 σ1) fun r7 σ5 => (if (r7 &&& x2) = 0 then (some (1, σ5)) else (some (0, σ5)))))) = some (r, σ') := hF
  refine lv_aload_n hx hb d_Proc_lacks_0 rfl (lv_at hl 0 rfl) ?_
  refine lv_iload_n hx hb d_Proc_lacks_1 rfl (lv_at hl 1 rfl) ?_
  obtain ⟨r3, σ1, q2, hF⟩ := vB2_some hF
  refine ed_cvI (As := [.int x1]) (rest := []) B hP hD hS hA (C_Proc_objectOf l D ad ca i0 x1 σ r3 σ1 h0 q2) me_Proc_objectOf mv_Proc_objectOf L_Proc_29 (ed_rc_Proc B hP h0) ⟨rfl, rfl⟩ ⟨Nat.le_of_ble_eq_true rfl, Nat.le_of_ble_eq_true rfl⟩ rfl rfl hl.1 (lv_room (Nat.le_of_ble_eq_true rfl)) d_Proc_lacks_2 (fun H locs hP hD hS => ?_)
  refine lv_iconst (v := (-1)) hx hb d_Proc_lacks_5 (by decide) ?_
  refine lv_icmp_eq (tgt := 23) hx hb d_Proc_lacks_6 (by decide) (fun c4 => ?_) (fun c4 => ?_)
  · have hF := vIt c4 hF
    refine lv_iconst (v := 0) hx hb d_Proc_lacks_23 (by decide) ?_
    exact ed_rZ B hr hA hP hD hS (by decide) (vP hF) d_Proc_lacks_24
  · have hF := vIf c4 hF
    refine lv_aload_n hx hb d_Proc_lacks_9 rfl (lv_at hl 0 rfl) ?_
    refine lv_iload_n hx hb d_Proc_lacks_10 rfl (lv_at hl 1 rfl) ?_
    obtain ⟨r7, σ5, q6, hF⟩ := vB2_some hF
    refine ed_cvI (As := [.int x1]) (rest := []) B hP hD hS hA (C_Proc_rightsOf l D ad ca i0 x1 σ1 r7 σ5 h0 q6) me_Proc_rightsOf mv_Proc_rightsOf L_Proc_33 (ed_rc_Proc B hP h0) ⟨rfl, rfl⟩ ⟨Nat.le_of_ble_eq_true rfl, Nat.le_of_ble_eq_true rfl⟩ rfl rfl hl.1 (lv_room (Nat.le_of_ble_eq_true rfl)) d_Proc_lacks_11 (fun H locs hP hD hS => ?_)
    refine lv_iload_n hx hb d_Proc_lacks_14 rfl (lv_at hl 2 rfl) ?_
    refine lv_iand hx hb d_Proc_lacks_15 ?_
    refine lv_if_ne (tgt := 23) hx hb d_Proc_lacks_16 (by decide) (fun c8 => ?_) (fun c8 => ?_)
    · have hF := vIf c8 hF
      refine lv_iconst (v := 0) hx hb d_Proc_lacks_23 (by decide) ?_
      exact ed_rZ B hr hA hP hD hS (by decide) (vP hF) d_Proc_lacks_24
    · have hF := vIt c8 hF
      refine lv_iconst (v := 1) hx hb d_Proc_lacks_19 (by decide) ?_
      refine lv_goto (tgt := 24) hx hb d_Proc_lacks_20 (by decide) ?_
      exact ed_rZ B hr hA hP hD hS (by decide) (vP hF) d_Proc_lacks_24
set_option maxHeartbeats 4000000 in
set_option maxRecDepth 100000 in
theorem C_Proc_lacks (l : Launch) (D : va_G) (ad : Nat → Nat) (ca : Nat → ClassId) (i0 : Nat) (x1 : Int32) (x2 : Int32) (σ : ed_S) (r : Int32) (σ' : ed_S) (h0 : i0 < 4) (hF : F_Proc_lacks i0 x1 x2 σ = some (r, σ')) : ed_MI l y_Proc_lacks ws_Proc_lacks rm_Proc_lacks D ca (ed_w ad ca) [.ref (ad (pProc i0)), .int x1, .int x2] σ r σ' := by
  refine ed_metI (cc := prog_3_method_5_code) (own := "ExecutiveDesk$ProcessState") (nL := 3) (ret := (some .boolean)) (by decide) rfl rfl (Nat.le_of_ble_eq_true rfl) ?_
  intro p e s m args below meth c A B hr hA
  exact T_Proc_lacks B hr hA i0 x1 x2 σ h0 hF
abbrev ws_Rul_append : List Cond := Cond.code y_Rul_append prog_5_method_2_code 4 none :: ed_tb
abbrev rm_Rul_append : Room := { frames := 0, cells := 0, slots := 0, locals := 0 }
def F_Rul_append (i0 : Nat) (x1 : Int32) (x2 : Int32) (x3 : Int32) (σ : ed_S) : Option ed_S := (if 4 ≤ (σ 30 i0 0) then (some σ) else (vG (σ 30 i0 0) 4 fun j2 => vL (ed_st σ 43 i0 j2 x1) fun σ6 => (vG (σ6 30 i0 0) 4 fun j8 => vL (ed_st σ6 44 i0 j8 x2) fun σ12 => (vG (σ12 30 i0 0) 4 fun j14 => vL (ed_st σ12 45 i0 j14 x3) fun σ18 => (vL (ed_st σ18 30 i0 0 ((σ18 30 i0 0) + 1)) fun σ20 => (some σ20))))))
set_option maxHeartbeats 4000000 in
set_option maxRecDepth 100000 in
theorem T_Rul_append {σ' : ed_S} (B : ed_B p s m args meth c prog_5_method_2_code "ExecutiveDesk$RuleList" 4 D ca) (hr : meth.sig.returnType = none) (hA : ∀ q : Nat, s.heap.size ≤ q → A q) : ∀ (i0 : Nat) (x1 : Int32) (x2 : Int32) (x3 : Int32) (σ : ed_S), i0 < 16 → F_Rul_append  i0 x1 x2 x3 σ = some σ' → ed_G p l e rm_Rul_append s m args below meth c D ca (ed_w ad ca) A (ed_QV D ca (ed_w ad ca) A below args s σ') 4 0 [(0, .ref (ad (pRul i0))), (1, .int x1), (2, .int x2), (3, .int x3)] [] σ := by
  have hx := B.1
  have hb := B.2.1
  intro i0 x1 x2 x3 σ h0 hF H locs ls hP hD hS hl
  have hF : (if 4 ≤ (σ 30 i0 0) then (some σ) else (vG (σ 30 i0 0) 4 fun j2 => vL (ed_st σ 43 i0 j2 x1) fun σ6 => (vG (σ6 30 i0 0) 4 fun j8 => vL (ed_st σ6 44 i0 j8 x2) fun σ12 => (vG (σ12 30 i0 0) 4 fun j14 => vL (ed_st σ12 45 i0 j14 x3) fun σ18 => (vL (ed_st σ18 30 i0 0 ((σ18 30 i0 0) + 1)) fun σ20 => (some σ20)))))) = some σ' := hF
  refine lv_aload_n hx hb d_Rul_append_0 rfl (lv_at hl 0 rfl) ?_
  refine gf_Rul_size B hP h0 L_Rul_21 d_Rul_append_1 ?_
  refine lv_iconst (v := 4) hx hb d_Rul_append_4 (by decide) ?_
  refine lv_icmp_ge (tgt := 48) hx hb d_Rul_append_5 (by decide) (fun c1 => ?_) (fun c1 => ?_)
  · have hF := vIt c1 hF
    exact ed_rV B hr hA hP hD hS (Option.some.inj hF) d_Rul_append_48
  · have hF := vIf c1 hF
    refine lv_aload_n hx hb d_Rul_append_8 rfl (lv_at hl 0 rfl) ?_
    refine gf_Rul_kinds B hP h0 L_Rul_9 d_Rul_append_9 ?_
    refine lv_aload_n hx hb d_Rul_append_12 rfl (lv_at hl 0 rfl) ?_
    refine gf_Rul_size B hP h0 L_Rul_21 d_Rul_append_13 ?_
    refine lv_iload_n hx hb d_Rul_append_16 rfl (lv_at hl 1 rfl) ?_
    obtain ⟨j2, ej3, hj4, hn5, hF⟩ := vG_some hF
    obtain ⟨σ6, e7, hF⟩ := vL_some hF
    refine is_RKi B hP hD hS h0 hn5 ej3 e7 d_Rul_append_17 (fun H locs hP hD hS => ?_)
    refine lv_aload_n hx hb d_Rul_append_18 rfl (lv_at hl 0 rfl) ?_
    refine gf_Rul_groups B hP h0 L_Rul_15 d_Rul_append_19 ?_
    refine lv_aload_n hx hb d_Rul_append_22 rfl (lv_at hl 0 rfl) ?_
    refine gf_Rul_size B hP h0 L_Rul_21 d_Rul_append_23 ?_
    refine lv_iload_n hx hb d_Rul_append_26 rfl (lv_at hl 2 rfl) ?_
    obtain ⟨j8, ej9, hj10, hn11, hF⟩ := vG_some hF
    obtain ⟨σ12, e13, hF⟩ := vL_some hF
    refine is_RGr B hP hD hS h0 hn11 ej9 e13 d_Rul_append_27 (fun H locs hP hD hS => ?_)
    refine lv_aload_n hx hb d_Rul_append_28 rfl (lv_at hl 0 rfl) ?_
    refine gf_Rul_rights B hP h0 L_Rul_18 d_Rul_append_29 ?_
    refine lv_aload_n hx hb d_Rul_append_32 rfl (lv_at hl 0 rfl) ?_
    refine gf_Rul_size B hP h0 L_Rul_21 d_Rul_append_33 ?_
    refine lv_iload_n hx hb d_Rul_append_36 rfl (lv_at hl 3 rfl) ?_
    obtain ⟨j14, ej15, hj16, hn17, hF⟩ := vG_some hF
    obtain ⟨σ18, e19, hF⟩ := vL_some hF
    refine is_RRi B hP hD hS h0 hn17 ej15 e19 d_Rul_append_37 (fun H locs hP hD hS => ?_)
    refine lv_aload_n hx hb d_Rul_append_38 rfl (lv_at hl 0 rfl) ?_
    refine lv_dup hx hb d_Rul_append_39 rfl ?_
    refine gf_Rul_size B hP h0 L_Rul_21 d_Rul_append_40 ?_
    refine lv_iconst (v := 1) hx hb d_Rul_append_43 (by decide) ?_
    refine lv_iadd hx hb d_Rul_append_44 ?_
    obtain ⟨σ20, e21, hF⟩ := vL_some hF
    refine pf_Rul_size B hP hD hS h0 e21 L_Rul_21 d_Rul_append_45 (fun H locs hP hD hS => ?_)
    exact ed_rV B hr hA hP hD hS (Option.some.inj hF) d_Rul_append_48
set_option maxHeartbeats 4000000 in
set_option maxRecDepth 100000 in
theorem C_Rul_append (l : Launch) (D : va_G) (ad : Nat → Nat) (ca : Nat → ClassId) (i0 : Nat) (x1 : Int32) (x2 : Int32) (x3 : Int32) (σ : ed_S) (σ' : ed_S) (h0 : i0 < 16) (hF : F_Rul_append i0 x1 x2 x3 σ = some σ') : ed_MV l y_Rul_append ws_Rul_append rm_Rul_append D ca (ed_w ad ca) [.ref (ad (pRul i0)), .int x1, .int x2, .int x3] σ σ' := by
  refine ed_metV (cc := prog_5_method_2_code) (own := "ExecutiveDesk$RuleList") (nL := 4) (ret := none) (by decide) rfl rfl (Nat.le_of_ble_eq_true rfl) ?_
  intro p e s m args below meth c A B hr hA
  exact T_Rul_append B hr hA i0 x1 x2 x3 σ h0 hF
abbrev ws_Desk_rule : List Cond := Cond.code y_Desk_rule prog_1_method_7_code 8 (some .int) :: ed_tb
abbrev rm_Desk_rule : Room := { frames := 3, cells := 0, slots := 0, locals := 65 }
def F_Desk_rule (x1 : Int32) (x2 : Int32) (x3 : Int32) (x4 : Int32) (σ : ed_S) : Option (Int32 × ed_S) := (if (σ 5 0 0) = (-1) then (some ((-3), σ)) else (vBr (F_Desk_processOfRunning  σ) 4 fun j4 σ2 => (vB2 (F_Proc_objectOf j4 x1 σ2) fun r8 σ6 => (if r8 = (-1) then (some ((-1), σ6)) else (vB2 (F_Desk_isWithin x2 0 1 σ6) fun r12 σ10 => (if r12 = 0 then (some ((-1), σ10)) else (vB2 (F_Desk_isWithin x3 0 7 σ10) fun r16 σ14 => (if r16 = 0 then (some ((-1), σ14)) else (vB2 (F_Desk_isWithin x4 1 7 σ14) fun r20 σ18 => (if r20 = 0 then (some ((-1), σ18)) else (vB2 (F_Proc_lacks j4 x1 2 σ18) fun r24 σ22 => (if r24 = 0 then (vG r8 16 fun j26 => (if (σ22 30 j26 0) = 4 then (some ((-2), σ22)) else (vB1 (F_Rul_append j26 x2 x3 x4 σ22) fun σ31 => (some ((σ31 30 j26 0), σ31))))) else (some ((-5), σ22))))))))))))))
set_option maxHeartbeats 4000000 in
set_option maxRecDepth 100000 in
theorem T_Desk_rule {r : Int32} {σ' : ed_S} (B : ed_B p s m args meth c prog_1_method_7_code "ExecutiveDesk" 8 D ca) (hr : meth.sig.returnType = (some .int)) (hA : ∀ q : Nat, s.heap.size ≤ q → A q) : ∀ (x1 : Int32) (x2 : Int32) (x3 : Int32) (x4 : Int32) (σ : ed_S), F_Desk_rule  x1 x2 x3 x4 σ = some (r, σ') → ed_G p l e rm_Desk_rule s m args below meth c D ca (ed_w ad ca) A (ed_QI D ca (ed_w ad ca) A below args s r σ') 8 0 [(0, .ref (ad (pDesk 0))), (1, .int x1), (2, .int x2), (3, .int x3), (4, .int x4)] [] σ := by
  have hx := B.1
  have hb := B.2.1
  intro x1 x2 x3 x4 σ  hF H locs ls hP hD hS hl
  have hF : (if (σ 5 0 0) = (-1) then (some ((-3), σ)) else (vBr (F_Desk_processOfRunning  σ) 4 fun j4 σ2 => (vB2 (F_Proc_objectOf j4 x1 σ2) fun r8 σ6 => (if r8 = (-1) then (some ((-1), σ6)) else (vB2 (F_Desk_isWithin x2 0 1 σ6) fun r12 σ10 => (if r12 = 0 then (some ((-1), σ10)) else (vB2 (F_Desk_isWithin x3 0 7 σ10) fun r16 σ14 => (if r16 = 0 then (some ((-1), σ14)) else (vB2 (F_Desk_isWithin x4 1 7 σ14) fun r20 σ18 => (if r20 = 0 then (some ((-1), σ18)) else (vB2 (F_Proc_lacks j4 x1 2 σ18) fun r24 σ22 => (if r24 = 0 then (vG r8 16 fun j26 => (if (σ22 30 j26 0) = 4 then (some ((-2), σ22)) else (vB1 (F_Rul_append j26 x2 x3 x4 σ22) fun σ31 => (some ((σ31 30 j26 0), σ31))))) else (some ((-5), σ22)))))))))))))) = some (r, σ') := hF
  refine lv_aload_n hx hb d_Desk_rule_0 rfl (lv_at hl 0 rfl) ?_
  refine gf_Desk_scheduler B hP (by decide) L_Desk_18 d_Desk_rule_1 ?_
  refine gf_Sched_running B hP (by decide) L_Desk_92 d_Desk_rule_4 ?_
  refine lv_iconst (v := (-1)) hx hb d_Desk_rule_7 (by decide) ?_
  refine lv_icmp_ne (tgt := 14) hx hb d_Desk_rule_8 (by decide) (fun c1 => ?_) (fun c1 => ?_)
  · have hF := vIf c1 hF
    refine lv_aload_n hx hb d_Desk_rule_14 rfl (lv_at hl 0 rfl) ?_
    obtain ⟨j4, σ2, q3, hj5, hF⟩ := vBr_some hF
    refine ed_cvR (As := []) (rest := []) B hP hD hS hA (C_Desk_processOfRunning l D ad ca  σ j4 σ2  q3) me_Desk_processOfRunning mv_Desk_processOfRunning L_Desk_102 (ed_rc_Desk B hP (by decide)) ⟨rfl, rfl⟩ ⟨Nat.le_of_ble_eq_true rfl, Nat.le_of_ble_eq_true rfl⟩ rfl rfl hl.1 (lv_room (Nat.le_of_ble_eq_true rfl)) d_Desk_rule_15 (fun H locs hP hD hS => ?_)
    refine lv_astore (lv' := [(5, .ref (ad (pProc j4))), (0, .ref (ad (pDesk 0))), (1, .int x1), (2, .int x2), (3, .int x3), (4, .int x4)]) hx hb d_Desk_rule_18 hl (by decide) rfl (fun ls hl => ?_)
    refine lv_aload hx hb d_Desk_rule_20 (lv_at hl 0 rfl) ?_
    refine lv_iload_n hx hb d_Desk_rule_22 rfl (lv_at hl 2 rfl) ?_
    obtain ⟨r8, σ6, q7, hF⟩ := vB2_some hF
    refine ed_cvI (As := [.int x1]) (rest := []) B hP hD hS hA (C_Proc_objectOf l D ad ca j4 x1 σ2 r8 σ6 hj5 q7) me_Proc_objectOf mv_Proc_objectOf L_Desk_134 (ed_rc_Proc B hP hj5) ⟨rfl, rfl⟩ ⟨Nat.le_of_ble_eq_true rfl, Nat.le_of_ble_eq_true rfl⟩ rfl rfl hl.1 (lv_room (Nat.le_of_ble_eq_true rfl)) d_Desk_rule_23 (fun H locs hP hD hS => ?_)
    refine lv_istore (lv' := [(6, .int r8), (5, .ref (ad (pProc j4))), (0, .ref (ad (pDesk 0))), (1, .int x1), (2, .int x2), (3, .int x3), (4, .int x4)]) hx hb d_Desk_rule_26 hl (by decide) rfl (fun ls hl => ?_)
    refine lv_iload hx hb d_Desk_rule_28 (lv_at hl 0 rfl) ?_
    refine lv_iconst (v := (-1)) hx hb d_Desk_rule_30 (by decide) ?_
    refine lv_icmp_eq (tgt := 43) hx hb d_Desk_rule_31 (by decide) (fun c9 => ?_) (fun c9 => ?_)
    · have hF := vIt c9 hF
      refine lv_iconst (v := (-1)) hx hb d_Desk_rule_43 (by decide) ?_
      exact ed_rI B hr hA hP hD hS (vP hF) d_Desk_rule_44
    · have hF := vIf c9 hF
      refine lv_iload_n hx hb d_Desk_rule_34 rfl (lv_at hl 4 rfl) ?_
      refine lv_iconst (v := 0) hx hb d_Desk_rule_35 (by decide) ?_
      refine lv_iconst (v := 1) hx hb d_Desk_rule_36 (by decide) ?_
      obtain ⟨r12, σ10, q11, hF⟩ := vB2_some hF
      refine ed_csI (As := [.int x2, .int 0, .int 1]) (rest := []) B hP hD hS hA (C_Desk_isWithin l D ad ca x2 0 1 σ6 r12 σ10  q11) me_Desk_isWithin st_Desk_isWithin L_Desk_54 ⟨rfl, rfl⟩ ⟨Nat.le_of_ble_eq_true rfl, Nat.le_of_ble_eq_true rfl⟩ rfl rfl hl.1 (lv_room (Nat.le_of_ble_eq_true rfl)) d_Desk_rule_37 (fun H locs hP hD hS => ?_)
      refine lv_if_ne (tgt := 45) hx hb d_Desk_rule_40 (by decide) (fun c13 => ?_) (fun c13 => ?_)
      · have hF := vIf c13 hF
        refine lv_iload_n hx hb d_Desk_rule_45 rfl (lv_at hl 5 rfl) ?_
        refine lv_iconst (v := 0) hx hb d_Desk_rule_46 (by decide) ?_
        refine lv_bipush (v := 7) hx hb d_Desk_rule_47 (by decide) ?_
        obtain ⟨r16, σ14, q15, hF⟩ := vB2_some hF
        refine ed_csI (As := [.int x3, .int 0, .int 7]) (rest := []) B hP hD hS hA (C_Desk_isWithin l D ad ca x3 0 7 σ10 r16 σ14  q15) me_Desk_isWithin st_Desk_isWithin L_Desk_54 ⟨rfl, rfl⟩ ⟨Nat.le_of_ble_eq_true rfl, Nat.le_of_ble_eq_true rfl⟩ rfl rfl hl.1 (lv_room (Nat.le_of_ble_eq_true rfl)) d_Desk_rule_49 (fun H locs hP hD hS => ?_)
        refine lv_if_eq (tgt := 66) hx hb d_Desk_rule_52 (by decide) (fun c17 => ?_) (fun c17 => ?_)
        · have hF := vIt c17 hF
          refine lv_iconst (v := (-1)) hx hb d_Desk_rule_66 (by decide) ?_
          exact ed_rI B hr hA hP hD hS (vP hF) d_Desk_rule_67
        · have hF := vIf c17 hF
          refine lv_iload hx hb d_Desk_rule_55 (lv_at hl 6 rfl) ?_
          refine lv_iconst (v := 1) hx hb d_Desk_rule_57 (by decide) ?_
          refine lv_bipush (v := 7) hx hb d_Desk_rule_58 (by decide) ?_
          obtain ⟨r20, σ18, q19, hF⟩ := vB2_some hF
          refine ed_csI (As := [.int x4, .int 1, .int 7]) (rest := []) B hP hD hS hA (C_Desk_isWithin l D ad ca x4 1 7 σ14 r20 σ18  q19) me_Desk_isWithin st_Desk_isWithin L_Desk_54 ⟨rfl, rfl⟩ ⟨Nat.le_of_ble_eq_true rfl, Nat.le_of_ble_eq_true rfl⟩ rfl rfl hl.1 (lv_room (Nat.le_of_ble_eq_true rfl)) d_Desk_rule_60 (fun H locs hP hD hS => ?_)
          refine lv_if_ne (tgt := 68) hx hb d_Desk_rule_63 (by decide) (fun c21 => ?_) (fun c21 => ?_)
          · have hF := vIf c21 hF
            refine lv_aload hx hb d_Desk_rule_68 (lv_at hl 1 rfl) ?_
            refine lv_iload_n hx hb d_Desk_rule_70 rfl (lv_at hl 3 rfl) ?_
            refine lv_iconst (v := 2) hx hb d_Desk_rule_71 (by decide) ?_
            obtain ⟨r24, σ22, q23, hF⟩ := vB2_some hF
            refine ed_cvI (As := [.int x1, .int 2]) (rest := []) B hP hD hS hA (C_Proc_lacks l D ad ca j4 x1 2 σ18 r24 σ22 hj5 q23) me_Proc_lacks mv_Proc_lacks L_Desk_144 (ed_rc_Proc B hP hj5) ⟨rfl, rfl⟩ ⟨Nat.le_of_ble_eq_true rfl, Nat.le_of_ble_eq_true rfl⟩ rfl rfl hl.1 (lv_room (Nat.le_of_ble_eq_true rfl)) d_Desk_rule_72 (fun H locs hP hD hS => ?_)
            refine lv_if_eq (tgt := 81) hx hb d_Desk_rule_75 (by decide) (fun c25 => ?_) (fun c25 => ?_)
            · have hF := vIt c25 hF
              refine lv_aload_n hx hb d_Desk_rule_81 rfl (lv_at hl 2 rfl) ?_
              refine gf_Desk_objects B hP (by decide) L_Desk_29 d_Desk_rule_82 ?_
              refine lv_iload hx hb d_Desk_rule_85 (lv_at hl 0 rfl) ?_
              obtain ⟨j26, ej27, hj28, hn29, hF⟩ := vG_some hF
              refine al_AObj B hP (by decide) hn29 ej27 hj28 d_Desk_rule_87 ?_
              refine gf_Obj_rules B hP hj28 L_Desk_124 d_Desk_rule_88 ?_
              refine lv_astore (lv' := [(7, .ref (ad (pRul j26))), (6, .int r8), (5, .ref (ad (pProc j4))), (0, .ref (ad (pDesk 0))), (1, .int x1), (2, .int x2), (3, .int x3), (4, .int x4)]) hx hb d_Desk_rule_91 hl (by decide) rfl (fun ls hl => ?_)
              refine lv_aload hx hb d_Desk_rule_93 (lv_at hl 0 rfl) ?_
              refine gf_Rul_size B hP hj28 L_Desk_147 d_Desk_rule_95 ?_
              refine lv_iconst (v := 4) hx hb d_Desk_rule_98 (by decide) ?_
              refine lv_icmp_ne (tgt := 105) hx hb d_Desk_rule_99 (by decide) (fun c30 => ?_) (fun c30 => ?_)
              · have hF := vIf c30 hF
                refine lv_aload hx hb d_Desk_rule_105 (lv_at hl 0 rfl) ?_
                refine lv_iload_n hx hb d_Desk_rule_107 rfl (lv_at hl 5 rfl) ?_
                refine lv_iload_n hx hb d_Desk_rule_108 rfl (lv_at hl 6 rfl) ?_
                refine lv_iload hx hb d_Desk_rule_109 (lv_at hl 7 rfl) ?_
                obtain ⟨σ31, q32, hF⟩ := vB1_some hF
                refine ed_cvV (As := [.int x2, .int x3, .int x4]) (rest := []) B hP hD hS hA (C_Rul_append l D ad ca j26 x2 x3 x4 σ22 σ31 hj28 q32) me_Rul_append mv_Rul_append L_Desk_150 (ed_rc_Rul B hP hj28) ⟨rfl, rfl⟩ ⟨Nat.le_of_ble_eq_true rfl, Nat.le_of_ble_eq_true rfl⟩ rfl rfl hl.1 (lv_room (Nat.le_of_ble_eq_true rfl)) d_Desk_rule_111 (fun H locs hP hD hS => ?_)
                refine lv_aload hx hb d_Desk_rule_114 (lv_at hl 0 rfl) ?_
                refine gf_Rul_size B hP hj28 L_Desk_147 d_Desk_rule_116 ?_
                exact ed_rI B hr hA hP hD hS (vP hF) d_Desk_rule_119
              · have hF := vIt c30 hF
                refine lv_bipush (v := (-2)) hx hb d_Desk_rule_102 (by decide) ?_
                exact ed_rI B hr hA hP hD hS (vP hF) d_Desk_rule_104
            · have hF := vIf c25 hF
              refine lv_bipush (v := (-5)) hx hb d_Desk_rule_78 (by decide) ?_
              exact ed_rI B hr hA hP hD hS (vP hF) d_Desk_rule_80
          · have hF := vIt c21 hF
            refine lv_iconst (v := (-1)) hx hb d_Desk_rule_66 (by decide) ?_
            exact ed_rI B hr hA hP hD hS (vP hF) d_Desk_rule_67
      · have hF := vIt c13 hF
        refine lv_iconst (v := (-1)) hx hb d_Desk_rule_43 (by decide) ?_
        exact ed_rI B hr hA hP hD hS (vP hF) d_Desk_rule_44
  · have hF := vIt c1 hF
    refine lv_bipush (v := (-3)) hx hb d_Desk_rule_11 (by decide) ?_
    exact ed_rI B hr hA hP hD hS (vP hF) d_Desk_rule_13
set_option maxHeartbeats 4000000 in
set_option maxRecDepth 100000 in
theorem C_Desk_rule (l : Launch) (D : va_G) (ad : Nat → Nat) (ca : Nat → ClassId) (x1 : Int32) (x2 : Int32) (x3 : Int32) (x4 : Int32) (σ : ed_S) (r : Int32) (σ' : ed_S) (hF : F_Desk_rule x1 x2 x3 x4 σ = some (r, σ')) : ed_MI l y_Desk_rule ws_Desk_rule rm_Desk_rule D ca (ed_w ad ca) [.ref (ad (pDesk 0)), .int x1, .int x2, .int x3, .int x4] σ r σ' := by
  refine ed_metI (cc := prog_1_method_7_code) (own := "ExecutiveDesk") (nL := 8) (ret := (some .int)) (by decide) rfl rfl (Nat.le_of_ble_eq_true rfl) ?_
  intro p e s m args below meth c A B hr hA
  exact T_Desk_rule B hr hA x1 x2 x3 x4 σ  hF
abbrev ws_Desk_canBeSetTo : List Cond := Cond.code y_Desk_canBeSetTo prog_1_method_24_code 2 (some .boolean) :: ed_tb
abbrev rm_Desk_canBeSetTo : Room := { frames := 1, cells := 0, slots := 0, locals := 22 }
def F_Desk_canBeSetTo (x0 : Int32) (x1 : Int32) (σ : ed_S) : Option (Int32 × ed_S) := (if x0 = 0 then (vB2 (F_Desk_isWithin x1 0 1 σ) fun r4 σ2 => (vC (r4 = 0 ∨ r4 = 1) (some (r4, σ2)))) else (if x0 = 1 then (vB2 (F_Desk_isWithin x1 0 1 σ) fun r9 σ7 => (vC (r9 = 0 ∨ r9 = 1) (some (r9, σ7)))) else (if x0 = 2 then (if x1 = 1 then (some (1, σ)) else (some (0, σ))) else (if x0 = 3 then (vB2 (F_Desk_isWithin x1 1 9 σ) fun r16 σ14 => (vC (r16 = 0 ∨ r16 = 1) (some (r16, σ14)))) else (if x0 = 4 then (vB2 (F_Desk_isWithin x1 0 99 σ) fun r21 σ19 => (vC (r21 = 0 ∨ r21 = 1) (some (r21, σ19)))) else (some (0, σ)))))))
set_option maxHeartbeats 4000000 in
set_option maxRecDepth 100000 in
theorem T_Desk_canBeSetTo {r : Int32} {σ' : ed_S} (B : ed_B p s m args meth c prog_1_method_24_code "ExecutiveDesk" 2 D ca) (hr : meth.sig.returnType = (some .boolean)) (hA : ∀ q : Nat, s.heap.size ≤ q → A q) : ∀ (x0 : Int32) (x1 : Int32) (σ : ed_S), F_Desk_canBeSetTo  x0 x1 σ = some (r, σ') → ed_G p l e rm_Desk_canBeSetTo s m args below meth c D ca (ed_w ad ca) A (ed_QI D ca (ed_w ad ca) A below args s r σ') 2 0 [(0, .int x0), (1, .int x1)] [] σ := by
  have hx := B.1
  have hb := B.2.1
  intro x0 x1 σ  hF H locs ls hP hD hS hl
  have hF : (if x0 = 0 then (vB2 (F_Desk_isWithin x1 0 1 σ) fun r4 σ2 => (vC (r4 = 0 ∨ r4 = 1) (some (r4, σ2)))) else (if x0 = 1 then (vB2 (F_Desk_isWithin x1 0 1 σ) fun r9 σ7 => (vC (r9 = 0 ∨ r9 = 1) (some (r9, σ7)))) else (if x0 = 2 then (if x1 = 1 then (some (1, σ)) else (some (0, σ))) else (if x0 = 3 then (vB2 (F_Desk_isWithin x1 1 9 σ) fun r16 σ14 => (vC (r16 = 0 ∨ r16 = 1) (some (r16, σ14)))) else (if x0 = 4 then (vB2 (F_Desk_isWithin x1 0 99 σ) fun r21 σ19 => (vC (r21 = 0 ∨ r21 = 1) (some (r21, σ19)))) else (some (0, σ))))))) = some (r, σ') := hF
  refine lv_iload_n hx hb d_Desk_canBeSetTo_0 rfl (lv_at hl 0 rfl) ?_
  rcases Decidable.em (x0 = 0) with c1 | c1
  · have hF := vIt c1 hF
    refine lv_tableIn (off := 35) (tgt := 36) hx hb d_Desk_canBeSetTo_1 (by rw [c1]; decide) (by rw [c1]; decide) (by rw [c1]; rfl) (by decide) ?_
    refine lv_iload_n hx hb d_Desk_canBeSetTo_36 rfl (lv_at hl 1 rfl) ?_
    refine lv_iconst (v := 0) hx hb d_Desk_canBeSetTo_37 (by decide) ?_
    refine lv_iconst (v := 1) hx hb d_Desk_canBeSetTo_38 (by decide) ?_
    obtain ⟨r4, σ2, q3, hF⟩ := vB2_some hF
    refine ed_csI (As := [.int x1, .int 0, .int 1]) (rest := []) B hP hD hS hA (C_Desk_isWithin l D ad ca x1 0 1 σ r4 σ2  q3) me_Desk_isWithin st_Desk_isWithin L_Desk_54 ⟨rfl, rfl⟩ ⟨Nat.le_of_ble_eq_true rfl, Nat.le_of_ble_eq_true rfl⟩ rfl rfl hl.1 (lv_room (Nat.le_of_ble_eq_true rfl)) d_Desk_canBeSetTo_39 (fun H locs hP hD hS => ?_)
    obtain ⟨z5, hF⟩ := vC_some hF
    exact ed_rZ B hr hA hP hD hS z5 (vP hF) d_Desk_canBeSetTo_42
  have hF := vIf c1 hF
  rcases Decidable.em (x0 = 1) with c6 | c6
  · have hF := vIt c6 hF
    refine lv_tableIn (off := 35) (tgt := 36) hx hb d_Desk_canBeSetTo_1 (by rw [c6]; decide) (by rw [c6]; decide) (by rw [c6]; rfl) (by decide) ?_
    refine lv_iload_n hx hb d_Desk_canBeSetTo_36 rfl (lv_at hl 1 rfl) ?_
    refine lv_iconst (v := 0) hx hb d_Desk_canBeSetTo_37 (by decide) ?_
    refine lv_iconst (v := 1) hx hb d_Desk_canBeSetTo_38 (by decide) ?_
    obtain ⟨r9, σ7, q8, hF⟩ := vB2_some hF
    refine ed_csI (As := [.int x1, .int 0, .int 1]) (rest := []) B hP hD hS hA (C_Desk_isWithin l D ad ca x1 0 1 σ r9 σ7  q8) me_Desk_isWithin st_Desk_isWithin L_Desk_54 ⟨rfl, rfl⟩ ⟨Nat.le_of_ble_eq_true rfl, Nat.le_of_ble_eq_true rfl⟩ rfl rfl hl.1 (lv_room (Nat.le_of_ble_eq_true rfl)) d_Desk_canBeSetTo_39 (fun H locs hP hD hS => ?_)
    obtain ⟨z10, hF⟩ := vC_some hF
    exact ed_rZ B hr hA hP hD hS z10 (vP hF) d_Desk_canBeSetTo_42
  have hF := vIf c6 hF
  rcases Decidable.em (x0 = 2) with c11 | c11
  · have hF := vIt c11 hF
    refine lv_tableIn (off := 42) (tgt := 43) hx hb d_Desk_canBeSetTo_1 (by rw [c11]; decide) (by rw [c11]; decide) (by rw [c11]; rfl) (by decide) ?_
    refine lv_iload_n hx hb d_Desk_canBeSetTo_43 rfl (lv_at hl 1 rfl) ?_
    refine lv_iconst (v := 1) hx hb d_Desk_canBeSetTo_44 (by decide) ?_
    refine lv_icmp_ne (tgt := 52) hx hb d_Desk_canBeSetTo_45 (by decide) (fun c12 => ?_) (fun c12 => ?_)
    · have hF := vIf c12 hF
      refine lv_iconst (v := 0) hx hb d_Desk_canBeSetTo_52 (by decide) ?_
      exact ed_rZ B hr hA hP hD hS (by decide) (vP hF) d_Desk_canBeSetTo_53
    · have hF := vIt c12 hF
      refine lv_iconst (v := 1) hx hb d_Desk_canBeSetTo_48 (by decide) ?_
      refine lv_goto (tgt := 53) hx hb d_Desk_canBeSetTo_49 (by decide) ?_
      exact ed_rZ B hr hA hP hD hS (by decide) (vP hF) d_Desk_canBeSetTo_53
  have hF := vIf c11 hF
  rcases Decidable.em (x0 = 3) with c13 | c13
  · have hF := vIt c13 hF
    refine lv_tableIn (off := 53) (tgt := 54) hx hb d_Desk_canBeSetTo_1 (by rw [c13]; decide) (by rw [c13]; decide) (by rw [c13]; rfl) (by decide) ?_
    refine lv_iload_n hx hb d_Desk_canBeSetTo_54 rfl (lv_at hl 1 rfl) ?_
    refine lv_iconst (v := 1) hx hb d_Desk_canBeSetTo_55 (by decide) ?_
    refine lv_bipush (v := 9) hx hb d_Desk_canBeSetTo_56 (by decide) ?_
    obtain ⟨r16, σ14, q15, hF⟩ := vB2_some hF
    refine ed_csI (As := [.int x1, .int 1, .int 9]) (rest := []) B hP hD hS hA (C_Desk_isWithin l D ad ca x1 1 9 σ r16 σ14  q15) me_Desk_isWithin st_Desk_isWithin L_Desk_54 ⟨rfl, rfl⟩ ⟨Nat.le_of_ble_eq_true rfl, Nat.le_of_ble_eq_true rfl⟩ rfl rfl hl.1 (lv_room (Nat.le_of_ble_eq_true rfl)) d_Desk_canBeSetTo_58 (fun H locs hP hD hS => ?_)
    obtain ⟨z17, hF⟩ := vC_some hF
    exact ed_rZ B hr hA hP hD hS z17 (vP hF) d_Desk_canBeSetTo_61
  have hF := vIf c13 hF
  rcases Decidable.em (x0 = 4) with c18 | c18
  · have hF := vIt c18 hF
    refine lv_tableIn (off := 61) (tgt := 62) hx hb d_Desk_canBeSetTo_1 (by rw [c18]; decide) (by rw [c18]; decide) (by rw [c18]; rfl) (by decide) ?_
    refine lv_iload_n hx hb d_Desk_canBeSetTo_62 rfl (lv_at hl 1 rfl) ?_
    refine lv_iconst (v := 0) hx hb d_Desk_canBeSetTo_63 (by decide) ?_
    refine lv_bipush (v := 99) hx hb d_Desk_canBeSetTo_64 (by decide) ?_
    obtain ⟨r21, σ19, q20, hF⟩ := vB2_some hF
    refine ed_csI (As := [.int x1, .int 0, .int 99]) (rest := []) B hP hD hS hA (C_Desk_isWithin l D ad ca x1 0 99 σ r21 σ19  q20) me_Desk_isWithin st_Desk_isWithin L_Desk_54 ⟨rfl, rfl⟩ ⟨Nat.le_of_ble_eq_true rfl, Nat.le_of_ble_eq_true rfl⟩ rfl rfl hl.1 (lv_room (Nat.le_of_ble_eq_true rfl)) d_Desk_canBeSetTo_66 (fun H locs hP hD hS => ?_)
    obtain ⟨z22, hF⟩ := vC_some hF
    exact ed_rZ B hr hA hP hD hS z22 (vP hF) d_Desk_canBeSetTo_69
  have hF := vIf c18 hF
  refine lv_tableOut (tgt := 70) hx hb d_Desk_canBeSetTo_1 (by have qc1 := lv_neT (a := 0) c1 (by decide); have qc6 := lv_neT (a := 1) c6 (by decide); have qc11 := lv_neT (a := 2) c11 (by decide); have qc13 := lv_neT (a := 3) c13 (by decide); have qc18 := lv_neT (a := 4) c18 (by decide); omega) (by decide) ?_
  refine lv_iconst (v := 0) hx hb d_Desk_canBeSetTo_70 (by decide) ?_
  exact ed_rZ B hr hA hP hD hS (by decide) (vP hF) d_Desk_canBeSetTo_71
set_option maxHeartbeats 4000000 in
set_option maxRecDepth 100000 in
theorem C_Desk_canBeSetTo (l : Launch) (D : va_G) (ad : Nat → Nat) (ca : Nat → ClassId) (x0 : Int32) (x1 : Int32) (σ : ed_S) (r : Int32) (σ' : ed_S) (hF : F_Desk_canBeSetTo x0 x1 σ = some (r, σ')) : ed_MI l y_Desk_canBeSetTo ws_Desk_canBeSetTo rm_Desk_canBeSetTo D ca (ed_w ad ca) [.int x0, .int x1] σ r σ' := by
  refine ed_metI (cc := prog_1_method_24_code) (own := "ExecutiveDesk") (nL := 2) (ret := (some .boolean)) (by decide) rfl rfl (Nat.le_of_ble_eq_true rfl) ?_
  intro p e s m args below meth c A B hr hA
  exact T_Desk_canBeSetTo B hr hA x0 x1 σ  hF
abbrev ws_Row_get : List Cond := Cond.code y_Row_get prog_4_method_2_code 2 (some .int) :: ed_tb
abbrev rm_Row_get : Room := { frames := 0, cells := 0, slots := 0, locals := 0 }
def F_Row_get (i0 : Nat) (x1 : Int32) (σ : ed_S) : Option (Int32 × ed_S) := (if x1 < 0 then (some ((-1), σ)) else (if (σ 18 i0 0) ≤ x1 then (some ((-1), σ)) else (vG x1 (ed_cap i0) fun j3 => (some ((σ 39 i0 j3), σ)))))
set_option maxHeartbeats 4000000 in
set_option maxRecDepth 100000 in
theorem T_Row_get {r : Int32} {σ' : ed_S} (B : ed_B p s m args meth c prog_4_method_2_code "ExecutiveDesk$Row" 2 D ca) (hr : meth.sig.returnType = (some .int)) (hA : ∀ q : Nat, s.heap.size ≤ q → A q) : ∀ (i0 : Nat) (x1 : Int32) (σ : ed_S), i0 < 34 → F_Row_get  i0 x1 σ = some (r, σ') → ed_G p l e rm_Row_get s m args below meth c D ca (ed_w ad ca) A (ed_QI D ca (ed_w ad ca) A below args s r σ') 2 0 [(0, .ref (ad (pRow i0))), (1, .int x1)] [] σ := by
  have hx := B.1
  have hb := B.2.1
  intro i0 x1 σ h0 hF H locs ls hP hD hS hl
  have hF : (if x1 < 0 then (some ((-1), σ)) else (if (σ 18 i0 0) ≤ x1 then (some ((-1), σ)) else (vG x1 (ed_cap i0) fun j3 => (some ((σ 39 i0 j3), σ))))) = some (r, σ') := hF
  refine lv_iload_n hx hb d_Row_get_0 rfl (lv_at hl 1 rfl) ?_
  refine lv_if_lt (tgt := 21) hx hb d_Row_get_1 (by decide) (fun c1 => ?_) (fun c1 => ?_)
  · have hF := vIt c1 hF
    refine lv_iconst (v := (-1)) hx hb d_Row_get_21 (by decide) ?_
    exact ed_rI B hr hA hP hD hS (vP hF) d_Row_get_22
  · have hF := vIf c1 hF
    refine lv_iload_n hx hb d_Row_get_4 rfl (lv_at hl 1 rfl) ?_
    refine lv_aload_n hx hb d_Row_get_5 rfl (lv_at hl 0 rfl) ?_
    refine gf_Row_size B hP h0 L_Row_15 d_Row_get_6 ?_
    refine lv_icmp_ge (tgt := 21) hx hb d_Row_get_9 (by decide) (fun c2 => ?_) (fun c2 => ?_)
    · have hF := vIt c2 hF
      refine lv_iconst (v := (-1)) hx hb d_Row_get_21 (by decide) ?_
      exact ed_rI B hr hA hP hD hS (vP hF) d_Row_get_22
    · have hF := vIf c2 hF
      refine lv_aload_n hx hb d_Row_get_12 rfl (lv_at hl 0 rfl) ?_
      refine gf_Row_items B hP h0 L_Row_9 d_Row_get_13 ?_
      refine lv_iload_n hx hb d_Row_get_16 rfl (lv_at hl 1 rfl) ?_
      obtain ⟨j3, ej4, hj5, hn6, hF⟩ := vG_some hF
      refine il_Itm B hP h0 hn6 ej4 d_Row_get_17 ?_
      refine lv_goto (tgt := 22) hx hb d_Row_get_18 (by decide) ?_
      exact ed_rI B hr hA hP hD hS (vP hF) d_Row_get_22
set_option maxHeartbeats 4000000 in
set_option maxRecDepth 100000 in
theorem C_Row_get (l : Launch) (D : va_G) (ad : Nat → Nat) (ca : Nat → ClassId) (i0 : Nat) (x1 : Int32) (σ : ed_S) (r : Int32) (σ' : ed_S) (h0 : i0 < 34) (hF : F_Row_get i0 x1 σ = some (r, σ')) : ed_MI l y_Row_get ws_Row_get rm_Row_get D ca (ed_w ad ca) [.ref (ad (pRow i0)), .int x1] σ r σ' := by
  refine ed_metI (cc := prog_4_method_2_code) (own := "ExecutiveDesk$Row") (nL := 2) (ret := (some .int)) (by decide) rfl rfl (Nat.le_of_ble_eq_true rfl) ?_
  intro p e s m args below meth c A B hr hA
  exact T_Row_get B hr hA i0 x1 σ h0 hF
abbrev ws_Obj_isSignaledFor : List Cond := Cond.code y_Obj_isSignaledFor prog_2_method_6_code 2 (some .boolean) :: ed_tb
abbrev rm_Obj_isSignaledFor : Room := { frames := 0, cells := 0, slots := 0, locals := 0 }
def F_Obj_isSignaledFor (i0 : Nat) (x1 : Int32) (σ : ed_S) : Option (Int32 × ed_S) := (if (σ 22 i0 0) = 2 then (if (σ 27 i0 0) = (-1) then (some (1, σ)) else (if (σ 27 i0 0) = x1 then (if 9 ≤ (σ 26 i0 0) then (some (0, σ)) else (some (1, σ))) else (some (0, σ)))) else (if (σ 26 i0 0) = 0 then (some (0, σ)) else (some (1, σ))))
set_option maxHeartbeats 4000000 in
set_option maxRecDepth 100000 in
theorem T_Obj_isSignaledFor {r : Int32} {σ' : ed_S} (B : ed_B p s m args meth c prog_2_method_6_code "ExecutiveDesk$ObjectState" 2 D ca) (hr : meth.sig.returnType = (some .boolean)) (hA : ∀ q : Nat, s.heap.size ≤ q → A q) : ∀ (i0 : Nat) (x1 : Int32) (σ : ed_S), i0 < 16 → F_Obj_isSignaledFor  i0 x1 σ = some (r, σ') → ed_G p l e rm_Obj_isSignaledFor s m args below meth c D ca (ed_w ad ca) A (ed_QI D ca (ed_w ad ca) A below args s r σ') 2 0 [(0, .ref (ad (pObj i0))), (1, .int x1)] [] σ := by
  have hx := B.1
  have hb := B.2.1
  intro i0 x1 σ h0 hF H locs ls hP hD hS hl
  have hF : (if (σ 22 i0 0) = 2 then (if (σ 27 i0 0) = (-1) then (some (1, σ)) else (if (σ 27 i0 0) = x1 then (if 9 ≤ (σ 26 i0 0) then (some (0, σ)) else (some (1, σ))) else (some (0, σ)))) else (if (σ 26 i0 0) = 0 then (some (0, σ)) else (some (1, σ)))) = some (r, σ') := hF
  refine lv_aload_n hx hb d_Obj_isSignaledFor_0 rfl (lv_at hl 0 rfl) ?_
  refine gf_Obj_type B hP h0 L_Obj_37 d_Obj_isSignaledFor_1 ?_
  refine lv_iconst (v := 2) hx hb d_Obj_isSignaledFor_4 (by decide) ?_
  refine lv_icmp_ne (tgt := 39) hx hb d_Obj_isSignaledFor_5 (by decide) (fun c1 => ?_) (fun c1 => ?_)
  · have hF := vIf c1 hF
    refine lv_aload_n hx hb d_Obj_isSignaledFor_39 rfl (lv_at hl 0 rfl) ?_
    refine gf_Obj_value B hP h0 L_Obj_40 d_Obj_isSignaledFor_40 ?_
    refine lv_if_eq (tgt := 50) hx hb d_Obj_isSignaledFor_43 (by decide) (fun c2 => ?_) (fun c2 => ?_)
    · have hF := vIt c2 hF
      refine lv_iconst (v := 0) hx hb d_Obj_isSignaledFor_50 (by decide) ?_
      exact ed_rZ B hr hA hP hD hS (by decide) (vP hF) d_Obj_isSignaledFor_51
    · have hF := vIf c2 hF
      refine lv_iconst (v := 1) hx hb d_Obj_isSignaledFor_46 (by decide) ?_
      refine lv_goto (tgt := 51) hx hb d_Obj_isSignaledFor_47 (by decide) ?_
      exact ed_rZ B hr hA hP hD hS (by decide) (vP hF) d_Obj_isSignaledFor_51
  · have hF := vIt c1 hF
    refine lv_aload_n hx hb d_Obj_isSignaledFor_8 rfl (lv_at hl 0 rfl) ?_
    refine gf_Obj_owner B hP h0 L_Obj_31 d_Obj_isSignaledFor_9 ?_
    refine lv_iconst (v := (-1)) hx hb d_Obj_isSignaledFor_12 (by decide) ?_
    refine lv_icmp_eq (tgt := 33) hx hb d_Obj_isSignaledFor_13 (by decide) (fun c3 => ?_) (fun c3 => ?_)
    · have hF := vIt c3 hF
      refine lv_iconst (v := 1) hx hb d_Obj_isSignaledFor_33 (by decide) ?_
      refine lv_goto (tgt := 38) hx hb d_Obj_isSignaledFor_34 (by decide) ?_
      exact ed_rZ B hr hA hP hD hS (by decide) (vP hF) d_Obj_isSignaledFor_38
    · have hF := vIf c3 hF
      refine lv_aload_n hx hb d_Obj_isSignaledFor_16 rfl (lv_at hl 0 rfl) ?_
      refine gf_Obj_owner B hP h0 L_Obj_31 d_Obj_isSignaledFor_17 ?_
      refine lv_iload_n hx hb d_Obj_isSignaledFor_20 rfl (lv_at hl 1 rfl) ?_
      refine lv_icmp_ne (tgt := 37) hx hb d_Obj_isSignaledFor_21 (by decide) (fun c4 => ?_) (fun c4 => ?_)
      · have hF := vIf c4 hF
        refine lv_iconst (v := 0) hx hb d_Obj_isSignaledFor_37 (by decide) ?_
        exact ed_rZ B hr hA hP hD hS (by decide) (vP hF) d_Obj_isSignaledFor_38
      · have hF := vIt c4 hF
        refine lv_aload_n hx hb d_Obj_isSignaledFor_24 rfl (lv_at hl 0 rfl) ?_
        refine gf_Obj_value B hP h0 L_Obj_40 d_Obj_isSignaledFor_25 ?_
        refine lv_bipush (v := 9) hx hb d_Obj_isSignaledFor_28 (by decide) ?_
        refine lv_icmp_ge (tgt := 37) hx hb d_Obj_isSignaledFor_30 (by decide) (fun c5 => ?_) (fun c5 => ?_)
        · have hF := vIt c5 hF
          refine lv_iconst (v := 0) hx hb d_Obj_isSignaledFor_37 (by decide) ?_
          exact ed_rZ B hr hA hP hD hS (by decide) (vP hF) d_Obj_isSignaledFor_38
        · have hF := vIf c5 hF
          refine lv_iconst (v := 1) hx hb d_Obj_isSignaledFor_33 (by decide) ?_
          refine lv_goto (tgt := 38) hx hb d_Obj_isSignaledFor_34 (by decide) ?_
          exact ed_rZ B hr hA hP hD hS (by decide) (vP hF) d_Obj_isSignaledFor_38
set_option maxHeartbeats 4000000 in
set_option maxRecDepth 100000 in
theorem C_Obj_isSignaledFor (l : Launch) (D : va_G) (ad : Nat → Nat) (ca : Nat → ClassId) (i0 : Nat) (x1 : Int32) (σ : ed_S) (r : Int32) (σ' : ed_S) (h0 : i0 < 16) (hF : F_Obj_isSignaledFor i0 x1 σ = some (r, σ')) : ed_MI l y_Obj_isSignaledFor ws_Obj_isSignaledFor rm_Obj_isSignaledFor D ca (ed_w ad ca) [.ref (ad (pObj i0)), .int x1] σ r σ' := by
  refine ed_metI (cc := prog_2_method_6_code) (own := "ExecutiveDesk$ObjectState") (nL := 2) (ret := (some .boolean)) (by decide) rfl rfl (Nat.le_of_ble_eq_true rfl) ?_
  intro p e s m args below meth c A B hr hA
  exact T_Obj_isSignaledFor B hr hA i0 x1 σ h0 hF
end EDT
