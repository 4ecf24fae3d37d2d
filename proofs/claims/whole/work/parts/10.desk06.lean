section EDT
variable {p : Program} {l : Launch} {e : Env} {s : State} {m : MethodId} {args : Array Value} {below : List Frame} {meth : Method} {c : Code} {D : va_G} {ad : Nat → Nat} {ca : Nat → ClassId} {A : Nat → Prop}
abbrev ws_Desk_isThere : List Cond := Cond.code y_Desk_isThere prog_1_method_27_code 2 (some .boolean) :: ed_tb
abbrev rm_Desk_isThere : Room := { frames := 1, cells := 0, slots := 0, locals := 22 }
def F_Desk_isThere (x1 : Int32) (σ : ed_S) : Option (Int32 × ed_S) := (vB2 (F_Desk_isWithin x1 0 15 σ) fun r3 σ1 => (if r3 = 0 then (some (0, σ1)) else (vG x1 16 fun j5 => (vB2 (F_Obj_isThere j5 σ1) fun r11 σ9 => (if r11 = 0 then (some (0, σ9)) else (some (1, σ9)))))))
set_option maxHeartbeats 4000000 in
set_option maxRecDepth 100000 in
theorem T_Desk_isThere {r : Int32} {σ' : ed_S} (B : ed_B p s m args meth c prog_1_method_27_code "ExecutiveDesk" 2 D ca) (hr : meth.sig.returnType = (some .boolean)) (hA : ∀ q : Nat, s.heap.size ≤ q → A q) : ∀ (x1 : Int32) (σ : ed_S), F_Desk_isThere  x1 σ = some (r, σ') → ed_G p l e rm_Desk_isThere s m args below meth c D ca (ed_w ad ca) A (ed_QI D ca (ed_w ad ca) A below args s r σ') 2 0 [(0, .ref (ad (pDesk 0))), (1, .int x1)] [] σ := by
  have hx := B.1
  have hb := B.2.1
  intro x1 σ  hF H locs ls hP hD hS hl
  have hF : (vB2 (F_Desk_isWithin x1 0 15 σ) fun r3 σ1 => (if r3 = 0 then (some (0, σ1)) else (vG x1 16 fun j5 => (vB2 (F_Obj_isThere j5 σ1) fun r11 σ9 => (if r11 = 0 then (some (0, σ9)) else (some (1, σ9))))))) = some (r, σ') := hF
  refine lv_iload_n hx hb d_Desk_isThere_0 rfl (lv_at hl 1 rfl) ?_
  refine lv_iconst (v := 0) hx hb d_Desk_isThere_1 (by decide) ?_
  refine lv_bipush (v := 15) hx hb d_Desk_isThere_2 (by decide) ?_
  obtain ⟨r3, σ1, q2, hF⟩ := vB2_some hF
  refine ed_csI (As := [.int x1, .int 0, .int 15]) (rest := []) B hP hD hS hA (C_Desk_isWithin l D ad ca x1 0 15 σ r3 σ1  q2) me_Desk_isWithin st_Desk_isWithin L_Desk_54 ⟨rfl, rfl⟩ ⟨Nat.le_of_ble_eq_true rfl, Nat.le_of_ble_eq_true rfl⟩ rfl rfl hl.1 (lv_room (Nat.le_of_ble_eq_true rfl)) d_Desk_isThere_4 (fun H locs hP hD hS => ?_)
  refine lv_if_eq (tgt := 26) hx hb d_Desk_isThere_7 (by decide) (fun c4 => ?_) (fun c4 => ?_)
  · have hF := vIt c4 hF
    refine lv_iconst (v := 0) hx hb d_Desk_isThere_26 (by decide) ?_
    exact ed_rZ B hr hA hP hD hS (by decide) (vP hF) d_Desk_isThere_27
  · have hF := vIf c4 hF
    refine lv_aload_n hx hb d_Desk_isThere_10 rfl (lv_at hl 0 rfl) ?_
    refine gf_Desk_objects B hP (by decide) L_Desk_29 d_Desk_isThere_11 ?_
    refine lv_iload_n hx hb d_Desk_isThere_14 rfl (lv_at hl 1 rfl) ?_
    obtain ⟨j5, ej6, hj7, hn8, hF⟩ := vG_some hF
    refine al_AObj B hP (by decide) hn8 ej6 hj7 d_Desk_isThere_15 ?_
    obtain ⟨r11, σ9, q10, hF⟩ := vB2_some hF
    refine ed_cvI (As := []) (rest := []) B hP hD hS hA (C_Obj_isThere l D ad ca j5 σ1 r11 σ9 hj7 q10) me_Obj_isThere mv_Obj_isThere L_Desk_316 (ed_rc_Obj B hP hj7) ⟨rfl, rfl⟩ ⟨Nat.le_of_ble_eq_true rfl, Nat.le_of_ble_eq_true rfl⟩ rfl rfl hl.1 (lv_room (Nat.le_of_ble_eq_true rfl)) d_Desk_isThere_16 (fun H locs hP hD hS => ?_)
    refine lv_if_eq (tgt := 26) hx hb d_Desk_isThere_19 (by decide) (fun c12 => ?_) (fun c12 => ?_)
    · have hF := vIt c12 hF
      refine lv_iconst (v := 0) hx hb d_Desk_isThere_26 (by decide) ?_
      exact ed_rZ B hr hA hP hD hS (by decide) (vP hF) d_Desk_isThere_27
    · have hF := vIf c12 hF
      refine lv_iconst (v := 1) hx hb d_Desk_isThere_22 (by decide) ?_
      refine lv_goto (tgt := 27) hx hb d_Desk_isThere_23 (by decide) ?_
      exact ed_rZ B hr hA hP hD hS (by decide) (vP hF) d_Desk_isThere_27
set_option maxHeartbeats 4000000 in
set_option maxRecDepth 100000 in
theorem C_Desk_isThere (l : Launch) (D : va_G) (ad : Nat → Nat) (ca : Nat → ClassId) (x1 : Int32) (σ : ed_S) (r : Int32) (σ' : ed_S) (hF : F_Desk_isThere x1 σ = some (r, σ')) : ed_MI l y_Desk_isThere ws_Desk_isThere rm_Desk_isThere D ca (ed_w ad ca) [.ref (ad (pDesk 0)), .int x1] σ r σ' := by
  refine ed_metI (cc := prog_1_method_27_code) (own := "ExecutiveDesk") (nL := 2) (ret := (some .boolean)) (by decide) rfl rfl (Nat.le_of_ble_eq_true rfl) ?_
  intro p e s m args below meth c A B hr hA
  exact T_Desk_isThere B hr hA x1 σ  hF
abbrev ws_Desk_interrupt : List Cond := Cond.code y_Desk_interrupt prog_1_method_12_code 3 (some .int) :: ed_tb
abbrev rm_Desk_interrupt : Room := { frames := 6, cells := 0, slots := 0, locals := 138 }
def F_Desk_interrupt (x1 : Int32) (x2 : Int32) (σ : ed_S) : Option (Int32 × ed_S) := (vB2 (F_Desk_isThere x1 σ) fun r3 σ1 => (if r3 = 0 then (some ((-1), σ1)) else (vG x1 16 fun j5 => (if (σ1 22 j5 0) = 5 then (if (σ1 4 0 0) = 0 then (vG x1 16 fun j29 => (vB1 (F_Desk_finishFirst j29 x2 σ1) fun σ33 => (vB1 (F_Desk_lookWhoRuns  σ33) fun σ35 => (some (1, σ35))))) else (if (σ1 18 33 0) = 8 then (some ((-2), σ1)) else (if x2 = 0 then (vB1 (F_Row_addLast 33 x1 σ1) fun σ13 => (vG x1 16 fun j15 => (vL (ed_st σ13 25 j15 0 ((σ13 25 j15 0) + 1)) fun σ19 => (some (0, σ19))))) else (vB1 (F_Row_addLast 33 (x1 + 16) σ1) fun σ21 => (vG x1 16 fun j23 => (vL (ed_st σ21 25 j23 0 ((σ21 25 j23 0) + 1)) fun σ27 => (some (0, σ27)))))))) else (some ((-1), σ1))))))
set_option maxHeartbeats 4000000 in
set_option maxRecDepth 100000 in
theorem T_Desk_interrupt {r : Int32} {σ' : ed_S} (B : ed_B p s m args meth c prog_1_method_12_code "ExecutiveDesk" 3 D ca) (hr : meth.sig.returnType = (some .int)) (hA : ∀ q : Nat, s.heap.size ≤ q → A q) : ∀ (x1 : Int32) (x2 : Int32) (σ : ed_S), F_Desk_interrupt  x1 x2 σ = some (r, σ') → ed_G p l e rm_Desk_interrupt s m args below meth c D ca (ed_w ad ca) A (ed_QI D ca (ed_w ad ca) A below args s r σ') 3 0 [(0, .ref (ad (pDesk 0))), (1, .int x1), (2, .int x2)] [] σ := by
  have hx := B.1
  have hb := B.2.1
  intro x1 x2 σ  hF H locs ls hP hD hS hl
  have hF : (vB2 (F_Desk_isThere x1 σ) fun r3 σ1 => (if r3 = 0 then (some ((-1), σ1)) else (vG x1 16 fun j5 => (if (σ1 22 j5 0) = 5 then (if (σ1 4 0 0) = 0 then (vG x1 16 fun j29 => (vB1 (F_Desk_finishFirst j29 x2 σ1) fun σ33 => (vB1 (F_Desk_lookWhoRuns  σ33) fun σ35 => (some (1, σ35))))) else (if (σ1 18 33 0) = 8 then (some ((-2), σ1)) else (if x2 = 0 then (vB1 (F_Row_addLast 33 x1 σ1) fun σ13 => (vG x1 16 fun j15 => (vL (ed_st σ13 25 j15 0 ((σ13 25 j15 0) + 1)) fun σ19 => (some (0, σ19))))) else (vB1 (F_Row_addLast 33 (x1 + 16) σ1) fun σ21 => (vG x1 16 fun j23 => (vL (ed_st σ21 25 j23 0 ((σ21 25 j23 0) + 1)) fun σ27 => (some (0, σ27)))))))) else (some ((-1), σ1)))))) = some (r, σ') := hF
  refine lv_aload_n hx hb d_Desk_interrupt_0 rfl (lv_at hl 0 rfl) ?_
  refine lv_iload_n hx hb d_Desk_interrupt_1 rfl (lv_at hl 1 rfl) ?_
  obtain ⟨r3, σ1, q2, hF⟩ := vB2_some hF
  refine ed_cvI (As := [.int x1]) (rest := []) B hP hD hS hA (C_Desk_isThere l D ad ca x1 σ r3 σ1  q2) me_Desk_isThere mv_Desk_isThere L_Desk_211 (ed_rc_Desk B hP (by decide)) ⟨rfl, rfl⟩ ⟨Nat.le_of_ble_eq_true rfl, Nat.le_of_ble_eq_true rfl⟩ rfl rfl hl.1 (lv_room (Nat.le_of_ble_eq_true rfl)) d_Desk_interrupt_2 (fun H locs hP hD hS => ?_)
  refine lv_if_eq (tgt := 21) hx hb d_Desk_interrupt_5 (by decide) (fun c4 => ?_) (fun c4 => ?_)
  · have hF := vIt c4 hF
    refine lv_iconst (v := (-1)) hx hb d_Desk_interrupt_21 (by decide) ?_
    exact ed_rI B hr hA hP hD hS (vP hF) d_Desk_interrupt_22
  · have hF := vIf c4 hF
    refine lv_aload_n hx hb d_Desk_interrupt_8 rfl (lv_at hl 0 rfl) ?_
    refine gf_Desk_objects B hP (by decide) L_Desk_29 d_Desk_interrupt_9 ?_
    refine lv_iload_n hx hb d_Desk_interrupt_12 rfl (lv_at hl 1 rfl) ?_
    obtain ⟨j5, ej6, hj7, hn8, hF⟩ := vG_some hF
    refine al_AObj B hP (by decide) hn8 ej6 hj7 d_Desk_interrupt_13 ?_
    refine gf_Obj_type B hP hj7 L_Desk_153 d_Desk_interrupt_14 ?_
    refine lv_iconst (v := 5) hx hb d_Desk_interrupt_17 (by decide) ?_
    refine lv_icmp_eq (tgt := 23) hx hb d_Desk_interrupt_18 (by decide) (fun c9 => ?_) (fun c9 => ?_)
    · have hF := vIt c9 hF
      refine lv_aload_n hx hb d_Desk_interrupt_23 rfl (lv_at hl 0 rfl) ?_
      refine gf_Desk_currentLevel B hP (by decide) L_Desk_163 d_Desk_interrupt_24 ?_
      refine lv_if_ne (tgt := 47) hx hb d_Desk_interrupt_27 (by decide) (fun c10 => ?_) (fun c10 => ?_)
      · have hF := vIf c10 hF
        refine lv_aload_n hx hb d_Desk_interrupt_47 rfl (lv_at hl 0 rfl) ?_
        refine gf_Desk_interrupts B hP (by decide) L_Desk_48 d_Desk_interrupt_48 ?_
        refine gf_Row_size B hP (by decide) L_Desk_181 d_Desk_interrupt_51 ?_
        refine lv_bipush (v := 8) hx hb d_Desk_interrupt_54 (by decide) ?_
        refine lv_icmp_ne (tgt := 62) hx hb d_Desk_interrupt_56 (by decide) (fun c11 => ?_) (fun c11 => ?_)
        · have hF := vIf c11 hF
          refine lv_aload_n hx hb d_Desk_interrupt_62 rfl (lv_at hl 0 rfl) ?_
          refine gf_Desk_interrupts B hP (by decide) L_Desk_48 d_Desk_interrupt_63 ?_
          refine lv_iload_n hx hb d_Desk_interrupt_66 rfl (lv_at hl 2 rfl) ?_
          refine lv_if_eq (tgt := 77) hx hb d_Desk_interrupt_67 (by decide) (fun c12 => ?_) (fun c12 => ?_)
          · have hF := vIt c12 hF
            refine lv_iload_n hx hb d_Desk_interrupt_77 rfl (lv_at hl 1 rfl) ?_
            obtain ⟨σ13, q14, hF⟩ := vB1_some hF
            refine ed_cvV (As := [.int x1]) (rest := []) B hP hD hS hA (C_Row_addLast l D ad ca 33 x1 σ1 σ13 (by decide) q14) me_Row_addLast mv_Row_addLast L_Desk_195 (ed_rc_Row B hP (by decide)) ⟨rfl, rfl⟩ ⟨Nat.le_of_ble_eq_true rfl, Nat.le_of_ble_eq_true rfl⟩ rfl rfl hl.1 (lv_room (Nat.le_of_ble_eq_true rfl)) d_Desk_interrupt_78 (fun H locs hP hD hS => ?_)
            refine lv_aload_n hx hb d_Desk_interrupt_81 rfl (lv_at hl 0 rfl) ?_
            refine gf_Desk_objects B hP (by decide) L_Desk_29 d_Desk_interrupt_82 ?_
            refine lv_iload_n hx hb d_Desk_interrupt_85 rfl (lv_at hl 1 rfl) ?_
            obtain ⟨j15, ej16, hj17, hn18, hF⟩ := vG_some hF
            refine al_AObj B hP (by decide) hn18 ej16 hj17 d_Desk_interrupt_86 ?_
            refine lv_dup hx hb d_Desk_interrupt_87 rfl ?_
            refine gf_Obj_pointers B hP hj17 L_Desk_204 d_Desk_interrupt_88 ?_
            refine lv_iconst (v := 1) hx hb d_Desk_interrupt_91 (by decide) ?_
            refine lv_iadd hx hb d_Desk_interrupt_92 ?_
            obtain ⟨σ19, e20, hF⟩ := vL_some hF
            refine pf_Obj_pointers B hP hD hS hj17 e20 L_Desk_204 d_Desk_interrupt_93 (fun H locs hP hD hS => ?_)
            refine lv_iconst (v := 0) hx hb d_Desk_interrupt_96 (by decide) ?_
            exact ed_rI B hr hA hP hD hS (vP hF) d_Desk_interrupt_97
          · have hF := vIf c12 hF
            refine lv_iload_n hx hb d_Desk_interrupt_70 rfl (lv_at hl 1 rfl) ?_
            refine lv_bipush (v := 16) hx hb d_Desk_interrupt_71 (by decide) ?_
            refine lv_iadd hx hb d_Desk_interrupt_73 ?_
            refine lv_goto (tgt := 78) hx hb d_Desk_interrupt_74 (by decide) ?_
            obtain ⟨σ21, q22, hF⟩ := vB1_some hF
            refine ed_cvV (As := [.int (x1 + 16)]) (rest := []) B hP hD hS hA (C_Row_addLast l D ad ca 33 (x1 + 16) σ1 σ21 (by decide) q22) me_Row_addLast mv_Row_addLast L_Desk_195 (ed_rc_Row B hP (by decide)) ⟨rfl, rfl⟩ ⟨Nat.le_of_ble_eq_true rfl, Nat.le_of_ble_eq_true rfl⟩ rfl rfl hl.1 (lv_room (Nat.le_of_ble_eq_true rfl)) d_Desk_interrupt_78 (fun H locs hP hD hS => ?_)
            refine lv_aload_n hx hb d_Desk_interrupt_81 rfl (lv_at hl 0 rfl) ?_
            refine gf_Desk_objects B hP (by decide) L_Desk_29 d_Desk_interrupt_82 ?_
            refine lv_iload_n hx hb d_Desk_interrupt_85 rfl (lv_at hl 1 rfl) ?_
            obtain ⟨j23, ej24, hj25, hn26, hF⟩ := vG_some hF
            refine al_AObj B hP (by decide) hn26 ej24 hj25 d_Desk_interrupt_86 ?_
            refine lv_dup hx hb d_Desk_interrupt_87 rfl ?_
            refine gf_Obj_pointers B hP hj25 L_Desk_204 d_Desk_interrupt_88 ?_
            refine lv_iconst (v := 1) hx hb d_Desk_interrupt_91 (by decide) ?_
            refine lv_iadd hx hb d_Desk_interrupt_92 ?_
            obtain ⟨σ27, e28, hF⟩ := vL_some hF
            refine pf_Obj_pointers B hP hD hS hj25 e28 L_Desk_204 d_Desk_interrupt_93 (fun H locs hP hD hS => ?_)
            refine lv_iconst (v := 0) hx hb d_Desk_interrupt_96 (by decide) ?_
            exact ed_rI B hr hA hP hD hS (vP hF) d_Desk_interrupt_97
        · have hF := vIt c11 hF
          refine lv_bipush (v := (-2)) hx hb d_Desk_interrupt_59 (by decide) ?_
          exact ed_rI B hr hA hP hD hS (vP hF) d_Desk_interrupt_61
      · have hF := vIt c10 hF
        refine lv_aload_n hx hb d_Desk_interrupt_30 rfl (lv_at hl 0 rfl) ?_
        refine lv_aload_n hx hb d_Desk_interrupt_31 rfl (lv_at hl 0 rfl) ?_
        refine gf_Desk_objects B hP (by decide) L_Desk_29 d_Desk_interrupt_32 ?_
        refine lv_iload_n hx hb d_Desk_interrupt_35 rfl (lv_at hl 1 rfl) ?_
        obtain ⟨j29, ej30, hj31, hn32, hF⟩ := vG_some hF
        refine al_AObj B hP (by decide) hn32 ej30 hj31 d_Desk_interrupt_36 ?_
        refine lv_iload_n hx hb d_Desk_interrupt_37 rfl (lv_at hl 2 rfl) ?_
        obtain ⟨σ33, q34, hF⟩ := vB1_some hF
        refine ed_cvV (As := [.ref (ad (pObj j29)), .int x2]) (rest := []) B hP hD hS hA (C_Desk_finishFirst l D ad ca j29 x2 σ1 σ33 hj31 q34) me_Desk_finishFirst mv_Desk_finishFirst L_Desk_207 (ed_rc_Desk B hP (by decide)) ⟨rfl, rfl⟩ ⟨Nat.le_of_ble_eq_true rfl, Nat.le_of_ble_eq_true rfl⟩ rfl rfl hl.1 (lv_room (Nat.le_of_ble_eq_true rfl)) d_Desk_interrupt_38 (fun H locs hP hD hS => ?_)
        refine lv_aload_n hx hb d_Desk_interrupt_41 rfl (lv_at hl 0 rfl) ?_
        obtain ⟨σ35, q36, hF⟩ := vB1_some hF
        refine ed_cvV (As := []) (rest := []) B hP hD hS hA (C_Desk_lookWhoRuns l D ad ca  σ33 σ35  q36) me_Desk_lookWhoRuns mv_Desk_lookWhoRuns L_Desk_89 (ed_rc_Desk B hP (by decide)) ⟨rfl, rfl⟩ ⟨Nat.le_of_ble_eq_true rfl, Nat.le_of_ble_eq_true rfl⟩ rfl rfl hl.1 (lv_room (Nat.le_of_ble_eq_true rfl)) d_Desk_interrupt_42 (fun H locs hP hD hS => ?_)
        refine lv_iconst (v := 1) hx hb d_Desk_interrupt_45 (by decide) ?_
        exact ed_rI B hr hA hP hD hS (vP hF) d_Desk_interrupt_46
    · have hF := vIf c9 hF
      refine lv_iconst (v := (-1)) hx hb d_Desk_interrupt_21 (by decide) ?_
      exact ed_rI B hr hA hP hD hS (vP hF) d_Desk_interrupt_22
set_option maxHeartbeats 4000000 in
set_option maxRecDepth 100000 in
theorem C_Desk_interrupt (l : Launch) (D : va_G) (ad : Nat → Nat) (ca : Nat → ClassId) (x1 : Int32) (x2 : Int32) (σ : ed_S) (r : Int32) (σ' : ed_S) (hF : F_Desk_interrupt x1 x2 σ = some (r, σ')) : ed_MI l y_Desk_interrupt ws_Desk_interrupt rm_Desk_interrupt D ca (ed_w ad ca) [.ref (ad (pDesk 0)), .int x1, .int x2] σ r σ' := by
  refine ed_metI (cc := prog_1_method_12_code) (own := "ExecutiveDesk") (nL := 3) (ret := (some .int)) (by decide) rfl rfl (Nat.le_of_ble_eq_true rfl) ?_
  intro p e s m args below meth c A B hr hA
  exact T_Desk_interrupt B hr hA x1 x2 σ  hF
abbrev ws_Desk_freeTransfer : List Cond := Cond.code y_Desk_freeTransfer prog_1_method_32_code 2 (some .int) :: ed_tb
abbrev rm_Desk_freeTransfer : Room := { frames := 0, cells := 0, slots := 0, locals := 0 }
def F_Desk_freeTransfer_2 : Nat → Int32 → ed_S → Option (Int32 × ed_S)
  | 0, _, _ => none
  | n + 1, x1, σ => (if 8 ≤ x1 then (some ((-1), σ)) else (vG x1 8 fun j2 => (if (σ 31 j2 0) = 0 then ((F_Desk_freeTransfer_2  n) (x1 + 1) σ) else (some (x1, σ)))))
def F_Desk_freeTransfer (σ : ed_S) : Option (Int32 × ed_S) := (F_Desk_freeTransfer_2  ed_fu 0 σ)
set_option maxHeartbeats 4000000 in
set_option maxRecDepth 100000 in
theorem T_Desk_freeTransfer_2 {r : Int32} {σ' : ed_S} (B : ed_B p s m args meth c prog_1_method_32_code "ExecutiveDesk" 2 D ca) (hr : meth.sig.returnType = (some .int)) (hA : ∀ q : Nat, s.heap.size ≤ q → A q) : ∀ (n : Nat) (x1 : Int32) (σ : ed_S), F_Desk_freeTransfer_2  n x1 σ = some (r, σ') → ed_G p l e rm_Desk_freeTransfer s m args below meth c D ca (ed_w ad ca) A (ed_QI D ca (ed_w ad ca) A below args s r σ') 2 2 [(0, .ref (ad (pDesk 0))), (1, .int x1)] [] σ := by
  have hx := B.1
  have hb := B.2.1
  intro n
  induction n with
  | zero => intro x1 σ  hF; exact absurd hF (by intro h; cases h)
  | succ n kk2 =>
    intro x1 σ  hF H locs ls hP hD hS hl
    have hF : (if 8 ≤ x1 then (some ((-1), σ)) else (vG x1 8 fun j2 => (if (σ 31 j2 0) = 0 then ((F_Desk_freeTransfer_2  n) (x1 + 1) σ) else (some (x1, σ))))) = some (r, σ') := hF
    refine lv_iload_n hx hb d_Desk_freeTransfer_2 rfl (lv_at hl 1 rfl) ?_
    refine lv_bipush (v := 8) hx hb d_Desk_freeTransfer_3 (by decide) ?_
    refine lv_icmp_ge (tgt := 28) hx hb d_Desk_freeTransfer_5 (by decide) (fun c1 => ?_) (fun c1 => ?_)
    · have hF := vIt c1 hF
      refine lv_iconst (v := (-1)) hx hb d_Desk_freeTransfer_28 (by decide) ?_
      exact ed_rI B hr hA hP hD hS (vP hF) d_Desk_freeTransfer_29
    · have hF := vIf c1 hF
      refine lv_aload_n hx hb d_Desk_freeTransfer_8 rfl (lv_at hl 0 rfl) ?_
      refine gf_Desk_transfers B hP (by decide) L_Desk_35 d_Desk_freeTransfer_9 ?_
      refine lv_iload_n hx hb d_Desk_freeTransfer_12 rfl (lv_at hl 1 rfl) ?_
      obtain ⟨j2, ej3, hj4, hn5, hF⟩ := vG_some hF
      refine al_ATra B hP (by decide) hn5 ej3 hj4 d_Desk_freeTransfer_13 ?_
      refine gf_Tra_status B hP hj4 L_Desk_283 d_Desk_freeTransfer_14 ?_
      refine lv_if_eq (tgt := 22) hx hb d_Desk_freeTransfer_17 (by decide) (fun c6 => ?_) (fun c6 => ?_)
      · have hF := vIt c6 hF
        refine lv_iinc (v := (x1 + 1)) (lv' := [(1, .int (x1 + 1)), (0, .ref (ad (pDesk 0)))]) hx hb d_Desk_freeTransfer_22 hl (k := 1) rfl rfl (by decide) rfl (fun ls hl => ?_)
        refine lv_goto (tgt := 2) hx hb d_Desk_freeTransfer_25 (by decide) ?_
        exact kk2 (x1 + 1) σ  hF _ _ _ hP hD hS (lv_sub hl [1, 0] rfl)
      · have hF := vIf c6 hF
        refine lv_iload_n hx hb d_Desk_freeTransfer_20 rfl (lv_at hl 1 rfl) ?_
        exact ed_rI B hr hA hP hD hS (vP hF) d_Desk_freeTransfer_21
set_option maxHeartbeats 4000000 in
set_option maxRecDepth 100000 in
theorem T_Desk_freeTransfer {r : Int32} {σ' : ed_S} (B : ed_B p s m args meth c prog_1_method_32_code "ExecutiveDesk" 2 D ca) (hr : meth.sig.returnType = (some .int)) (hA : ∀ q : Nat, s.heap.size ≤ q → A q) : ∀ (σ : ed_S), F_Desk_freeTransfer   σ = some (r, σ') → ed_G p l e rm_Desk_freeTransfer s m args below meth c D ca (ed_w ad ca) A (ed_QI D ca (ed_w ad ca) A below args s r σ') 2 0 [(0, .ref (ad (pDesk 0)))] [] σ := by
  have hx := B.1
  have hb := B.2.1
  intro  σ  hF H locs ls hP hD hS hl
  have hF : (F_Desk_freeTransfer_2  ed_fu 0 σ) = some (r, σ') := hF
  refine lv_iconst (v := 0) hx hb d_Desk_freeTransfer_0 (by decide) ?_
  refine lv_istore_n (lv' := [(1, .int 0), (0, .ref (ad (pDesk 0)))]) hx hb d_Desk_freeTransfer_1 rfl hl (by decide) rfl (fun ls hl => ?_)
  exact T_Desk_freeTransfer_2 B hr hA  ed_fu 0 σ  hF _ _ _ hP hD hS (lv_sub hl [1, 0] rfl)
set_option maxHeartbeats 4000000 in
set_option maxRecDepth 100000 in
theorem C_Desk_freeTransfer (l : Launch) (D : va_G) (ad : Nat → Nat) (ca : Nat → ClassId) (σ : ed_S) (r : Int32) (σ' : ed_S) (hF : F_Desk_freeTransfer  σ = some (r, σ')) : ed_MI l y_Desk_freeTransfer ws_Desk_freeTransfer rm_Desk_freeTransfer D ca (ed_w ad ca) [.ref (ad (pDesk 0))] σ r σ' := by
  refine ed_metI (cc := prog_1_method_32_code) (own := "ExecutiveDesk") (nL := 2) (ret := (some .int)) (by decide) rfl rfl (Nat.le_of_ble_eq_true rfl) ?_
  intro p e s m args below meth c A B hr hA
  exact T_Desk_freeTransfer B hr hA  σ  hF
abbrev ws_Tra_begin : List Cond := Cond.code y_Tra_begin prog_8_method_2_code 5 none :: ed_tb
abbrev rm_Tra_begin : Room := { frames := 0, cells := 0, slots := 0, locals := 0 }
def F_Tra_begin (i0 : Nat) (x1 : Int32) (x2 : Int32) (x3 : Int32) (x4 : Int32) (σ : ed_S) : Option ed_S := (vL (ed_st σ 31 i0 0 0) fun σ1 => (vL (ed_st σ1 32 i0 0 0) fun σ3 => (vL (ed_st σ3 33 i0 0 x1) fun σ5 => (vL (ed_st σ5 34 i0 0 x2) fun σ7 => (vL (ed_st σ7 35 i0 0 x3) fun σ9 => (vL (ed_st σ9 36 i0 0 x4) fun σ11 => (vL (ed_st σ11 37 i0 0 0) fun σ13 => (vL (ed_st σ13 38 i0 0 0) fun σ15 => (some σ15)))))))))
set_option maxHeartbeats 4000000 in
set_option maxRecDepth 100000 in
theorem T_Tra_begin {σ' : ed_S} (B : ed_B p s m args meth c prog_8_method_2_code "ExecutiveDesk$TransferState" 5 D ca) (hr : meth.sig.returnType = none) (hA : ∀ q : Nat, s.heap.size ≤ q → A q) : ∀ (i0 : Nat) (x1 : Int32) (x2 : Int32) (x3 : Int32) (x4 : Int32) (σ : ed_S), i0 < 8 → F_Tra_begin  i0 x1 x2 x3 x4 σ = some σ' → ed_G p l e rm_Tra_begin s m args below meth c D ca (ed_w ad ca) A (ed_QV D ca (ed_w ad ca) A below args s σ') 5 0 [(0, .ref (ad (pTra i0))), (1, .int x1), (2, .int x2), (3, .int x3), (4, .int x4)] [] σ := by
  have hx := B.1
  have hb := B.2.1
  intro i0 x1 x2 x3 x4 σ h0 hF H locs ls hP hD hS hl
  have hF : (vL (ed_st σ 31 i0 0 0) fun σ1 => (vL (ed_st σ1 32 i0 0 0) fun σ3 => (vL (ed_st σ3 33 i0 0 x1) fun σ5 => (vL (ed_st σ5 34 i0 0 x2) fun σ7 => (vL (ed_st σ7 35 i0 0 x3) fun σ9 => (vL (ed_st σ9 36 i0 0 x4) fun σ11 => (vL (ed_st σ11 37 i0 0 0) fun σ13 => (vL (ed_st σ13 38 i0 0 0) fun σ15 => (some σ15))))))))) = some σ' := hF
  refine lv_aload_n hx hb d_Tra_begin_0 rfl (lv_at hl 0 rfl) ?_
  refine lv_iconst (v := 0) hx hb d_Tra_begin_1 (by decide) ?_
  obtain ⟨σ1, e2, hF⟩ := vL_some hF
  refine pf_Tra_status B hP hD hS h0 e2 L_Tra_9 d_Tra_begin_2 (fun H locs hP hD hS => ?_)
  refine lv_aload_n hx hb d_Tra_begin_5 rfl (lv_at hl 0 rfl) ?_
  refine lv_iconst (v := 0) hx hb d_Tra_begin_6 (by decide) ?_
  obtain ⟨σ3, e4, hF⟩ := vL_some hF
  refine pf_Tra_amount B hP hD hS h0 e4 L_Tra_15 d_Tra_begin_7 (fun H locs hP hD hS => ?_)
  refine lv_aload_n hx hb d_Tra_begin_10 rfl (lv_at hl 0 rfl) ?_
  refine lv_iload_n hx hb d_Tra_begin_11 rfl (lv_at hl 1 rfl) ?_
  obtain ⟨σ5, e6, hF⟩ := vL_some hF
  refine pf_Tra_thread B hP hD hS h0 e6 L_Tra_18 d_Tra_begin_12 (fun H locs hP hD hS => ?_)
  refine lv_aload_n hx hb d_Tra_begin_15 rfl (lv_at hl 0 rfl) ?_
  refine lv_iload_n hx hb d_Tra_begin_16 rfl (lv_at hl 2 rfl) ?_
  obtain ⟨σ7, e8, hF⟩ := vL_some hF
  refine pf_Tra_device B hP hD hS h0 e8 L_Tra_21 d_Tra_begin_17 (fun H locs hP hD hS => ?_)
  refine lv_aload_n hx hb d_Tra_begin_20 rfl (lv_at hl 0 rfl) ?_
  refine lv_iload_n hx hb d_Tra_begin_21 rfl (lv_at hl 3 rfl) ?_
  obtain ⟨σ9, e10, hF⟩ := vL_some hF
  refine pf_Tra_length B hP hD hS h0 e10 L_Tra_24 d_Tra_begin_22 (fun H locs hP hD hS => ?_)
  refine lv_aload_n hx hb d_Tra_begin_25 rfl (lv_at hl 0 rfl) ?_
  refine lv_iload hx hb d_Tra_begin_26 (lv_at hl 4 rfl) ?_
  obtain ⟨σ11, e12, hF⟩ := vL_some hF
  refine pf_Tra_target B hP hD hS h0 e12 L_Tra_27 d_Tra_begin_28 (fun H locs hP hD hS => ?_)
  refine lv_aload_n hx hb d_Tra_begin_31 rfl (lv_at hl 0 rfl) ?_
  refine lv_iconst (v := 0) hx hb d_Tra_begin_32 (by decide) ?_
  obtain ⟨σ13, e14, hF⟩ := vL_some hF
  refine pf_Tra_toBeCancelled B hP hD hS h0 (by decide) e14 L_Tra_30 d_Tra_begin_33 (fun H locs hP hD hS => ?_)
  refine lv_aload_n hx hb d_Tra_begin_36 rfl (lv_at hl 0 rfl) ?_
  refine lv_iconst (v := 0) hx hb d_Tra_begin_37 (by decide) ?_
  obtain ⟨σ15, e16, hF⟩ := vL_some hF
  refine pf_Tra_retried B hP hD hS h0 (by decide) e16 L_Tra_34 d_Tra_begin_38 (fun H locs hP hD hS => ?_)
  exact ed_rV B hr hA hP hD hS (Option.some.inj hF) d_Tra_begin_41
set_option maxHeartbeats 4000000 in
set_option maxRecDepth 100000 in
theorem C_Tra_begin (l : Launch) (D : va_G) (ad : Nat → Nat) (ca : Nat → ClassId) (i0 : Nat) (x1 : Int32) (x2 : Int32) (x3 : Int32) (x4 : Int32) (σ : ed_S) (σ' : ed_S) (h0 : i0 < 8) (hF : F_Tra_begin i0 x1 x2 x3 x4 σ = some σ') : ed_MV l y_Tra_begin ws_Tra_begin rm_Tra_begin D ca (ed_w ad ca) [.ref (ad (pTra i0)), .int x1, .int x2, .int x3, .int x4] σ σ' := by
  refine ed_metV (cc := prog_8_method_2_code) (own := "ExecutiveDesk$TransferState") (nL := 5) (ret := none) (by decide) rfl rfl (Nat.le_of_ble_eq_true rfl) ?_
  intro p e s m args below meth c A B hr hA
  exact T_Tra_begin B hr hA i0 x1 x2 x3 x4 σ h0 hF
abbrev ws_Desk_sendDown : List Cond := Cond.code y_Desk_sendDown prog_1_method_53_code 5 none :: ed_tb
abbrev rm_Desk_sendDown : Room := { frames := 5, cells := 0, slots := 0, locals := 114 }
def F_Desk_sendDown_44 (x1 : Int32) (x2 : Int32) (i3 : Nat) (i4 : Nat) (σ : ed_S) : Option ed_S := (vB2 (F_Obj_hasLayer i4 2 σ) fun r3 σ1 => (if r3 = 0 then (vB1 (F_Row_addLast (16 + i4) x1 σ1) fun σ5 => (some σ5)) else (if x2 < 128 then (vL (ed_st σ1 35 i3 0 (if (128 - x2) < (σ1 35 i3 0) then (128 - x2) else (σ1 35 i3 0))) fun σ8 => (vB1 (F_Row_addLast (16 + i4) x1 σ8) fun σ10 => (some σ10))) else (vB1 (F_Desk_conclude i3 3 0 σ1) fun σ12 => (some σ12)))))
def F_Desk_sendDown (x1 : Int32) (x2 : Int32) (σ : ed_S) : Option ed_S := (vG x1 8 fun j1 => (vG (σ 34 j1 0) 16 fun j5 => (vB2 (F_Obj_hasLayer j5 1 σ) fun r11 σ9 => (if r11 = 0 then (F_Desk_sendDown_44  x1 x2 j1 j5 σ9) else (if (σ9 35 j1 0) ≤ 64 then (F_Desk_sendDown_44  x1 x2 j1 j5 σ9) else (vB1 (F_Desk_conclude j1 2 0 σ9) fun σ14 => (some σ14)))))))
set_option maxHeartbeats 4000000 in
set_option maxRecDepth 100000 in
theorem T_Desk_sendDown_44 {σ' : ed_S} (B : ed_B p s m args meth c prog_1_method_53_code "ExecutiveDesk" 5 D ca) (hr : meth.sig.returnType = none) (hA : ∀ q : Nat, s.heap.size ≤ q → A q) : ∀ (x1 : Int32) (x2 : Int32) (i3 : Nat) (i4 : Nat) (σ : ed_S), i3 < 8 → i4 < 16 → F_Desk_sendDown_44  x1 x2 i3 i4 σ = some σ' → ed_G p l e rm_Desk_sendDown s m args below meth c D ca (ed_w ad ca) A (ed_QV D ca (ed_w ad ca) A below args s σ') 5 44 [(0, .ref (ad (pDesk 0))), (1, .int x1), (2, .int x2), (3, .ref (ad (pTra i3))), (4, .ref (ad (pObj i4)))] [] σ := by
  have hx := B.1
  have hb := B.2.1
  intro x1 x2 i3 i4 σ h3 h4 hF H locs ls hP hD hS hl
  have hF : (vB2 (F_Obj_hasLayer i4 2 σ) fun r3 σ1 => (if r3 = 0 then (vB1 (F_Row_addLast (16 + i4) x1 σ1) fun σ5 => (some σ5)) else (if x2 < 128 then (vL (ed_st σ1 35 i3 0 (if (128 - x2) < (σ1 35 i3 0) then (128 - x2) else (σ1 35 i3 0))) fun σ8 => (vB1 (F_Row_addLast (16 + i4) x1 σ8) fun σ10 => (some σ10))) else (vB1 (F_Desk_conclude i3 3 0 σ1) fun σ12 => (some σ12))))) = some σ' := hF
  refine lv_aload hx hb d_Desk_sendDown_44 (lv_at hl 4 rfl) ?_
  refine lv_iconst (v := 2) hx hb d_Desk_sendDown_46 (by decide) ?_
  obtain ⟨r3, σ1, q2, hF⟩ := vB2_some hF
  refine ed_cvI (As := [.int 2]) (rest := []) B hP hD hS hA (C_Obj_hasLayer l D ad ca i4 2 σ r3 σ1 h4 q2) me_Obj_hasLayer mv_Obj_hasLayer L_Desk_381 (ed_rc_Obj B hP h4) ⟨rfl, rfl⟩ ⟨Nat.le_of_ble_eq_true rfl, Nat.le_of_ble_eq_true rfl⟩ rfl rfl hl.1 (lv_room (Nat.le_of_ble_eq_true rfl)) d_Desk_sendDown_47 (fun H locs hP hD hS => ?_)
  refine lv_if_eq (tgt := 84) hx hb d_Desk_sendDown_50 (by decide) (fun c4 => ?_) (fun c4 => ?_)
  · have hF := vIt c4 hF
    refine lv_aload hx hb d_Desk_sendDown_84 (lv_at hl 4 rfl) ?_
    refine gf_Obj_row B hP h4 L_Desk_270 d_Desk_sendDown_86 ?_
    refine lv_iload_n hx hb d_Desk_sendDown_89 rfl (lv_at hl 1 rfl) ?_
    obtain ⟨σ5, q6, hF⟩ := vB1_some hF
    refine ed_cvV (As := [.int x1]) (rest := []) B hP hD hS hA (C_Row_addLast l D ad ca (16 + i4) x1 σ1 σ5 (ed_b16 h4) q6) me_Row_addLast mv_Row_addLast L_Desk_195 (ed_rc_Row B hP (ed_b16 h4)) ⟨rfl, rfl⟩ ⟨Nat.le_of_ble_eq_true rfl, Nat.le_of_ble_eq_true rfl⟩ rfl rfl hl.1 (lv_room (Nat.le_of_ble_eq_true rfl)) d_Desk_sendDown_90 (fun H locs hP hD hS => ?_)
    exact ed_rV B hr hA hP hD hS (Option.some.inj hF) d_Desk_sendDown_93
  · have hF := vIf c4 hF
    refine lv_iload_n hx hb d_Desk_sendDown_53 rfl (lv_at hl 2 rfl) ?_
    refine lv_sipush (v := 128) hx hb d_Desk_sendDown_54 (by decide) ?_
    refine lv_icmp_lt (tgt := 68) hx hb d_Desk_sendDown_57 (by decide) (fun c7 => ?_) (fun c7 => ?_)
    · have hF := vIt c7 hF
      refine lv_aload_n hx hb d_Desk_sendDown_68 rfl (lv_at hl 3 rfl) ?_
      refine lv_aload_n hx hb d_Desk_sendDown_69 rfl (lv_at hl 3 rfl) ?_
      refine gf_Tra_length B hP h3 L_Desk_292 d_Desk_sendDown_70 ?_
      refine lv_sipush (v := 128) hx hb d_Desk_sendDown_73 (by decide) ?_
      refine lv_iload_n hx hb d_Desk_sendDown_76 rfl (lv_at hl 2 rfl) ?_
      refine lv_isub hx hb d_Desk_sendDown_77 ?_
      refine ed_min B hl.1 L_Desk_384 (Nat.le_of_ble_eq_true rfl) (Nat.le_of_ble_eq_true rfl) d_Desk_sendDown_78 ?_
      obtain ⟨σ8, e9, hF⟩ := vL_some hF
      refine pf_Tra_length B hP hD hS h3 e9 L_Desk_292 d_Desk_sendDown_81 (fun H locs hP hD hS => ?_)
      refine lv_aload hx hb d_Desk_sendDown_84 (lv_at hl 4 rfl) ?_
      refine gf_Obj_row B hP h4 L_Desk_270 d_Desk_sendDown_86 ?_
      refine lv_iload_n hx hb d_Desk_sendDown_89 rfl (lv_at hl 1 rfl) ?_
      obtain ⟨σ10, q11, hF⟩ := vB1_some hF
      refine ed_cvV (As := [.int x1]) (rest := []) B hP hD hS hA (C_Row_addLast l D ad ca (16 + i4) x1 σ8 σ10 (ed_b16 h4) q11) me_Row_addLast mv_Row_addLast L_Desk_195 (ed_rc_Row B hP (ed_b16 h4)) ⟨rfl, rfl⟩ ⟨Nat.le_of_ble_eq_true rfl, Nat.le_of_ble_eq_true rfl⟩ rfl rfl hl.1 (lv_room (Nat.le_of_ble_eq_true rfl)) d_Desk_sendDown_90 (fun H locs hP hD hS => ?_)
      exact ed_rV B hr hA hP hD hS (Option.some.inj hF) d_Desk_sendDown_93
    · have hF := vIf c7 hF
      refine lv_aload_n hx hb d_Desk_sendDown_60 rfl (lv_at hl 0 rfl) ?_
      refine lv_aload_n hx hb d_Desk_sendDown_61 rfl (lv_at hl 3 rfl) ?_
      refine lv_iconst (v := 3) hx hb d_Desk_sendDown_62 (by decide) ?_
      refine lv_iconst (v := 0) hx hb d_Desk_sendDown_63 (by decide) ?_
      obtain ⟨σ12, q13, hF⟩ := vB1_some hF
      refine ed_cvV (As := [.ref (ad (pTra i3)), .int 3, .int 0]) (rest := []) B hP hD hS hA (C_Desk_conclude l D ad ca i3 3 0 σ1 σ12 h3 q13) me_Desk_conclude mv_Desk_conclude L_Desk_377 (ed_rc_Desk B hP (by decide)) ⟨rfl, rfl⟩ ⟨Nat.le_of_ble_eq_true rfl, Nat.le_of_ble_eq_true rfl⟩ rfl rfl hl.1 (lv_room (Nat.le_of_ble_eq_true rfl)) d_Desk_sendDown_64 (fun H locs hP hD hS => ?_)
      exact ed_rV B hr hA hP hD hS (Option.some.inj hF) d_Desk_sendDown_67
set_option maxHeartbeats 4000000 in
set_option maxRecDepth 100000 in
theorem T_Desk_sendDown {σ' : ed_S} (B : ed_B p s m args meth c prog_1_method_53_code "ExecutiveDesk" 5 D ca) (hr : meth.sig.returnType = none) (hA : ∀ q : Nat, s.heap.size ≤ q → A q) : ∀ (x1 : Int32) (x2 : Int32) (σ : ed_S), F_Desk_sendDown  x1 x2 σ = some σ' → ed_G p l e rm_Desk_sendDown s m args below meth c D ca (ed_w ad ca) A (ed_QV D ca (ed_w ad ca) A below args s σ') 5 0 [(0, .ref (ad (pDesk 0))), (1, .int x1), (2, .int x2)] [] σ := by
  have hx := B.1
  have hb := B.2.1
  intro x1 x2 σ  hF H locs ls hP hD hS hl
  have hF : (vG x1 8 fun j1 => (vG (σ 34 j1 0) 16 fun j5 => (vB2 (F_Obj_hasLayer j5 1 σ) fun r11 σ9 => (if r11 = 0 then (F_Desk_sendDown_44  x1 x2 j1 j5 σ9) else (if (σ9 35 j1 0) ≤ 64 then (F_Desk_sendDown_44  x1 x2 j1 j5 σ9) else (vB1 (F_Desk_conclude j1 2 0 σ9) fun σ14 => (some σ14))))))) = some σ' := hF
  refine lv_aload_n hx hb d_Desk_sendDown_0 rfl (lv_at hl 0 rfl) ?_
  refine gf_Desk_transfers B hP (by decide) L_Desk_35 d_Desk_sendDown_1 ?_
  refine lv_iload_n hx hb d_Desk_sendDown_4 rfl (lv_at hl 1 rfl) ?_
  obtain ⟨j1, ej2, hj3, hn4, hF⟩ := vG_some hF
  refine al_ATra B hP (by decide) hn4 ej2 hj3 d_Desk_sendDown_5 ?_
  refine lv_astore_n (lv' := [(3, .ref (ad (pTra j1))), (0, .ref (ad (pDesk 0))), (1, .int x1), (2, .int x2)]) hx hb d_Desk_sendDown_6 rfl hl (by decide) rfl (fun ls hl => ?_)
  refine lv_aload_n hx hb d_Desk_sendDown_7 rfl (lv_at hl 1 rfl) ?_
  refine gf_Desk_objects B hP (by decide) L_Desk_29 d_Desk_sendDown_8 ?_
  refine lv_aload_n hx hb d_Desk_sendDown_11 rfl (lv_at hl 0 rfl) ?_
  refine gf_Tra_device B hP hj3 L_Desk_289 d_Desk_sendDown_12 ?_
  obtain ⟨j5, ej6, hj7, hn8, hF⟩ := vG_some hF
  refine al_AObj B hP (by decide) hn8 ej6 hj7 d_Desk_sendDown_15 ?_
  refine lv_astore (lv' := [(4, .ref (ad (pObj j5))), (3, .ref (ad (pTra j1))), (0, .ref (ad (pDesk 0))), (1, .int x1), (2, .int x2)]) hx hb d_Desk_sendDown_16 hl (by decide) rfl (fun ls hl => ?_)
  refine lv_aload hx hb d_Desk_sendDown_18 (lv_at hl 0 rfl) ?_
  refine lv_iconst (v := 1) hx hb d_Desk_sendDown_20 (by decide) ?_
  obtain ⟨r11, σ9, q10, hF⟩ := vB2_some hF
  refine ed_cvI (As := [.int 1]) (rest := []) B hP hD hS hA (C_Obj_hasLayer l D ad ca j5 1 σ r11 σ9 hj7 q10) me_Obj_hasLayer mv_Obj_hasLayer L_Desk_381 (ed_rc_Obj B hP hj7) ⟨rfl, rfl⟩ ⟨Nat.le_of_ble_eq_true rfl, Nat.le_of_ble_eq_true rfl⟩ rfl rfl hl.1 (lv_room (Nat.le_of_ble_eq_true rfl)) d_Desk_sendDown_21 (fun H locs hP hD hS => ?_)
  refine lv_if_eq (tgt := 44) hx hb d_Desk_sendDown_24 (by decide) (fun c12 => ?_) (fun c12 => ?_)
  · have hF := vIt c12 hF
    exact T_Desk_sendDown_44 B hr hA  x1 x2 j1 j5 σ9 hj3 hj7 hF _ _ _ hP hD hS (lv_sub hl [2, 3, 4, 1, 0] rfl)
  · have hF := vIf c12 hF
    refine lv_aload_n hx hb d_Desk_sendDown_27 rfl (lv_at hl 1 rfl) ?_
    refine gf_Tra_length B hP hj3 L_Desk_292 d_Desk_sendDown_28 ?_
    refine lv_bipush (v := 64) hx hb d_Desk_sendDown_31 (by decide) ?_
    refine lv_icmp_le (tgt := 44) hx hb d_Desk_sendDown_33 (by decide) (fun c13 => ?_) (fun c13 => ?_)
    · have hF := vIt c13 hF
      exact T_Desk_sendDown_44 B hr hA  x1 x2 j1 j5 σ9 hj3 hj7 hF _ _ _ hP hD hS (lv_sub hl [2, 3, 4, 1, 0] rfl)
    · have hF := vIf c13 hF
      refine lv_aload_n hx hb d_Desk_sendDown_36 rfl (lv_at hl 2 rfl) ?_
      refine lv_aload_n hx hb d_Desk_sendDown_37 rfl (lv_at hl 1 rfl) ?_
      refine lv_iconst (v := 2) hx hb d_Desk_sendDown_38 (by decide) ?_
      refine lv_iconst (v := 0) hx hb d_Desk_sendDown_39 (by decide) ?_
      obtain ⟨σ14, q15, hF⟩ := vB1_some hF
      refine ed_cvV (As := [.ref (ad (pTra j1)), .int 2, .int 0]) (rest := []) B hP hD hS hA (C_Desk_conclude l D ad ca j1 2 0 σ9 σ14 hj3 q15) me_Desk_conclude mv_Desk_conclude L_Desk_377 (ed_rc_Desk B hP (by decide)) ⟨rfl, rfl⟩ ⟨Nat.le_of_ble_eq_true rfl, Nat.le_of_ble_eq_true rfl⟩ rfl rfl hl.1 (lv_room (Nat.le_of_ble_eq_true rfl)) d_Desk_sendDown_40 (fun H locs hP hD hS => ?_)
      exact ed_rV B hr hA hP hD hS (Option.some.inj hF) d_Desk_sendDown_43
set_option maxHeartbeats 4000000 in
set_option maxRecDepth 100000 in
theorem C_Desk_sendDown (l : Launch) (D : va_G) (ad : Nat → Nat) (ca : Nat → ClassId) (x1 : Int32) (x2 : Int32) (σ : ed_S) (σ' : ed_S) (hF : F_Desk_sendDown x1 x2 σ = some σ') : ed_MV l y_Desk_sendDown ws_Desk_sendDown rm_Desk_sendDown D ca (ed_w ad ca) [.ref (ad (pDesk 0)), .int x1, .int x2] σ σ' := by
  refine ed_metV (cc := prog_1_method_53_code) (own := "ExecutiveDesk") (nL := 5) (ret := none) (by decide) rfl rfl (Nat.le_of_ble_eq_true rfl) ?_
  intro p e s m args below meth c A B hr hA
  exact T_Desk_sendDown B hr hA x1 x2 σ  hF
abbrev ws_Desk_transfer : List Cond := Cond.code y_Desk_transfer prog_1_method_13_code 9 (some .int) :: ed_tb
abbrev rm_Desk_transfer : Room := { frames := 6, cells := 0, slots := 0, locals := 138 }
def F_Desk_transfer_90 (x1 : Int32) (x2 : Int32) (x3 : Int32) (x4 : Int32) (i5 : Nat) (x6 : Int32) (x7 : Int32) (σ : ed_S) : Option (Int32 × ed_S) := (vB2 (F_Proc_lacks i5 x1 1 σ) fun r3 σ1 => (if r3 = 0 then (vB2 (F_Proc_lacks i5 x4 2 σ1) fun r7 σ5 => (if r7 = 0 then (vB2 (F_Desk_freeTransfer  σ5) fun r11 σ9 => (if r11 = (-1) then (some ((-2), σ9)) else (vG r11 8 fun j13 => (vB1 (F_Tra_begin j13 (σ9 5 0 0) x6 x3 x7 σ9) fun σ17 => (vG r11 8 fun j19 => (vB1 (F_Desk_pointToObjectsOf j19 1 σ17) fun σ23 => (vB1 (F_Desk_sendDown r11 x2 σ23) fun σ25 => (vB1 (F_Desk_lookWhoRuns  σ25) fun σ27 => (some (r11, σ27)))))))))) else (some ((-5), σ5)))) else (some ((-5), σ1))))
def F_Desk_transfer (x1 : Int32) (x2 : Int32) (x3 : Int32) (x4 : Int32) (σ : ed_S) : Option (Int32 × ed_S) := (if (σ 5 0 0) = (-1) then (some ((-3), σ)) else (vBr (F_Desk_processOfRunning  σ) 4 fun j4 σ2 => (vB2 (F_Proc_objectOf j4 x1 σ2) fun r8 σ6 => (vB2 (F_Proc_objectOf j4 x4 σ6) fun r11 σ9 => (vB2 (F_Desk_isOfType r8 5 5 σ9) fun r14 σ12 => (if r14 = 0 then (some ((-1), σ12)) else (vB2 (F_Desk_isWithin x2 0 255 σ12) fun r18 σ16 => (if r18 = 0 then (some ((-1), σ16)) else (vB2 (F_Desk_isWithin x3 1 99 σ16) fun r22 σ20 => (if r22 = 0 then (some ((-1), σ20)) else (if x4 = (-1) then (F_Desk_transfer_90  x1 x2 x3 x4 j4 r8 r11 σ20) else (vB2 (F_Desk_isOfType r11 0 1 σ20) fun r27 σ25 => (if r27 = 0 then (some ((-1), σ25)) else (F_Desk_transfer_90  x1 x2 x3 x4 j4 r8 r11 σ25))))))))))))))
set_option maxHeartbeats 4000000 in
set_option maxRecDepth 100000 in
theorem T_Desk_transfer_90 {r : Int32} {σ' : ed_S} (B : ed_B p s m args meth c prog_1_method_13_code "ExecutiveDesk" 9 D ca) (hr : meth.sig.returnType = (some .int)) (hA : ∀ q : Nat, s.heap.size ≤ q → A q) : ∀ (x1 : Int32) (x2 : Int32) (x3 : Int32) (x4 : Int32) (i5 : Nat) (x6 : Int32) (x7 : Int32) (σ : ed_S), i5 < 4 → F_Desk_transfer_90  x1 x2 x3 x4 i5 x6 x7 σ = some (r, σ') → ed_G p l e rm_Desk_transfer s m args below meth c D ca (ed_w ad ca) A (ed_QI D ca (ed_w ad ca) A below args s r σ') 9 90 [(0, .ref (ad (pDesk 0))), (1, .int x1), (2, .int x2), (3, .int x3), (4, .int x4), (5, .ref (ad (pProc i5))), (6, .int x6), (7, .int x7)] [] σ := by
  have hx := B.1
  have hb := B.2.1
  intro x1 x2 x3 x4 i5 x6 x7 σ h5 hF H locs ls hP hD hS hl
  have hF : (vB2 (F_Proc_lacks i5 x1 1 σ) fun r3 σ1 => (if r3 = 0 then (vB2 (F_Proc_lacks i5 x4 2 σ1) fun r7 σ5 => (if r7 = 0 then (vB2 (F_Desk_freeTransfer  σ5) fun r11 σ9 => (if r11 = (-1) then (some ((-2), σ9)) else (vG r11 8 fun j13 => (vB1 (F_Tra_begin j13 (σ9 5 0 0) x6 x3 x7 σ9) fun σ17 => (vG r11 8 fun j19 => (vB1 (F_Desk_pointToObjectsOf j19 1 σ17) fun σ23 => (vB1 (F_Desk_sendDown r11 x2 σ23) fun σ25 => (vB1 (F_Desk_lookWhoRuns  σ25) fun σ27 => (some (r11, σ27)))))))))) else (some ((-5), σ5)))) else (some ((-5), σ1)))) = some (r, σ') := hF
  refine lv_aload hx hb d_Desk_transfer_90 (lv_at hl 5 rfl) ?_
  refine lv_iload_n hx hb d_Desk_transfer_92 rfl (lv_at hl 1 rfl) ?_
  refine lv_iconst (v := 1) hx hb d_Desk_transfer_93 (by decide) ?_
  obtain ⟨r3, σ1, q2, hF⟩ := vB2_some hF
  refine ed_cvI (As := [.int x1, .int 1]) (rest := []) B hP hD hS hA (C_Proc_lacks l D ad ca i5 x1 1 σ r3 σ1 h5 q2) me_Proc_lacks mv_Proc_lacks L_Desk_144 (ed_rc_Proc B hP h5) ⟨rfl, rfl⟩ ⟨Nat.le_of_ble_eq_true rfl, Nat.le_of_ble_eq_true rfl⟩ rfl rfl hl.1 (lv_room (Nat.le_of_ble_eq_true rfl)) d_Desk_transfer_94 (fun H locs hP hD hS => ?_)
  refine lv_if_ne (tgt := 111) hx hb d_Desk_transfer_97 (by decide) (fun c4 => ?_) (fun c4 => ?_)
  · have hF := vIf c4 hF
    refine lv_bipush (v := (-5)) hx hb d_Desk_transfer_111 (by decide) ?_
    exact ed_rI B hr hA hP hD hS (vP hF) d_Desk_transfer_113
  · have hF := vIt c4 hF
    refine lv_aload hx hb d_Desk_transfer_100 (lv_at hl 5 rfl) ?_
    refine lv_iload hx hb d_Desk_transfer_102 (lv_at hl 4 rfl) ?_
    refine lv_iconst (v := 2) hx hb d_Desk_transfer_104 (by decide) ?_
    obtain ⟨r7, σ5, q6, hF⟩ := vB2_some hF
    refine ed_cvI (As := [.int x4, .int 2]) (rest := []) B hP hD hS hA (C_Proc_lacks l D ad ca i5 x4 2 σ1 r7 σ5 h5 q6) me_Proc_lacks mv_Proc_lacks L_Desk_144 (ed_rc_Proc B hP h5) ⟨rfl, rfl⟩ ⟨Nat.le_of_ble_eq_true rfl, Nat.le_of_ble_eq_true rfl⟩ rfl rfl hl.1 (lv_room (Nat.le_of_ble_eq_true rfl)) d_Desk_transfer_105 (fun H locs hP hD hS => ?_)
    refine lv_if_eq (tgt := 114) hx hb d_Desk_transfer_108 (by decide) (fun c8 => ?_) (fun c8 => ?_)
    · have hF := vIt c8 hF
      refine lv_aload_n hx hb d_Desk_transfer_114 rfl (lv_at hl 0 rfl) ?_
      obtain ⟨r11, σ9, q10, hF⟩ := vB2_some hF
      refine ed_cvI (As := []) (rest := []) B hP hD hS hA (C_Desk_freeTransfer l D ad ca  σ5 r11 σ9  q10) me_Desk_freeTransfer mv_Desk_freeTransfer L_Desk_218 (ed_rc_Desk B hP (by decide)) ⟨rfl, rfl⟩ ⟨Nat.le_of_ble_eq_true rfl, Nat.le_of_ble_eq_true rfl⟩ rfl rfl hl.1 (lv_room (Nat.le_of_ble_eq_true rfl)) d_Desk_transfer_115 (fun H locs hP hD hS => ?_)
      refine lv_istore (lv' := [(8, .int r11), (0, .ref (ad (pDesk 0))), (1, .int x1), (2, .int x2), (3, .int x3), (4, .int x4), (5, .ref (ad (pProc i5))), (6, .int x6), (7, .int x7)]) hx hb d_Desk_transfer_118 hl (by decide) rfl (fun ls hl => ?_)
      refine lv_iload hx hb d_Desk_transfer_120 (lv_at hl 0 rfl) ?_
      refine lv_iconst (v := (-1)) hx hb d_Desk_transfer_122 (by decide) ?_
      refine lv_icmp_ne (tgt := 129) hx hb d_Desk_transfer_123 (by decide) (fun c12 => ?_) (fun c12 => ?_)
      · have hF := vIf c12 hF
        refine lv_aload_n hx hb d_Desk_transfer_129 rfl (lv_at hl 1 rfl) ?_
        refine gf_Desk_transfers B hP (by decide) L_Desk_35 d_Desk_transfer_130 ?_
        refine lv_iload hx hb d_Desk_transfer_133 (lv_at hl 0 rfl) ?_
        obtain ⟨j13, ej14, hj15, hn16, hF⟩ := vG_some hF
        refine al_ATra B hP (by decide) hn16 ej14 hj15 d_Desk_transfer_135 ?_
        refine lv_aload_n hx hb d_Desk_transfer_136 rfl (lv_at hl 1 rfl) ?_
        refine gf_Desk_scheduler B hP (by decide) L_Desk_18 d_Desk_transfer_137 ?_
        refine gf_Sched_running B hP (by decide) L_Desk_92 d_Desk_transfer_140 ?_
        refine lv_iload hx hb d_Desk_transfer_143 (lv_at hl 7 rfl) ?_
        refine lv_iload_n hx hb d_Desk_transfer_145 rfl (lv_at hl 4 rfl) ?_
        refine lv_iload hx hb d_Desk_transfer_146 (lv_at hl 8 rfl) ?_
        obtain ⟨σ17, q18, hF⟩ := vB1_some hF
        refine ed_cvV (As := [.int (σ9 5 0 0), .int x6, .int x3, .int x7]) (rest := []) B hP hD hS hA (C_Tra_begin l D ad ca j13 (σ9 5 0 0) x6 x3 x7 σ9 σ17 hj15 q18) me_Tra_begin mv_Tra_begin L_Desk_221 (ed_rc_Tra B hP hj15) ⟨rfl, rfl⟩ ⟨Nat.le_of_ble_eq_true rfl, Nat.le_of_ble_eq_true rfl⟩ rfl rfl hl.1 (lv_room (Nat.le_of_ble_eq_true rfl)) d_Desk_transfer_148 (fun H locs hP hD hS => ?_)
        refine lv_aload_n hx hb d_Desk_transfer_151 rfl (lv_at hl 1 rfl) ?_
        refine lv_aload_n hx hb d_Desk_transfer_152 rfl (lv_at hl 1 rfl) ?_
        refine gf_Desk_transfers B hP (by decide) L_Desk_35 d_Desk_transfer_153 ?_
        refine lv_iload hx hb d_Desk_transfer_156 (lv_at hl 0 rfl) ?_
        obtain ⟨j19, ej20, hj21, hn22, hF⟩ := vG_some hF
        refine al_ATra B hP (by decide) hn22 ej20 hj21 d_Desk_transfer_158 ?_
        refine lv_iconst (v := 1) hx hb d_Desk_transfer_159 (by decide) ?_
        obtain ⟨σ23, q24, hF⟩ := vB1_some hF
        refine ed_cvV (As := [.ref (ad (pTra j19)), .int 1]) (rest := []) B hP hD hS hA (C_Desk_pointToObjectsOf l D ad ca j19 1 σ17 σ23 hj21 q24) me_Desk_pointToObjectsOf mv_Desk_pointToObjectsOf L_Desk_223 (ed_rc_Desk B hP (by decide)) ⟨rfl, rfl⟩ ⟨Nat.le_of_ble_eq_true rfl, Nat.le_of_ble_eq_true rfl⟩ rfl rfl hl.1 (lv_room (Nat.le_of_ble_eq_true rfl)) d_Desk_transfer_160 (fun H locs hP hD hS => ?_)
        refine lv_aload_n hx hb d_Desk_transfer_163 rfl (lv_at hl 1 rfl) ?_
        refine lv_iload hx hb d_Desk_transfer_164 (lv_at hl 0 rfl) ?_
        refine lv_iload_n hx hb d_Desk_transfer_166 rfl (lv_at hl 3 rfl) ?_
        obtain ⟨σ25, q26, hF⟩ := vB1_some hF
        refine ed_cvV (As := [.int r11, .int x2]) (rest := []) B hP hD hS hA (C_Desk_sendDown l D ad ca r11 x2 σ23 σ25  q26) me_Desk_sendDown mv_Desk_sendDown L_Desk_227 (ed_rc_Desk B hP (by decide)) ⟨rfl, rfl⟩ ⟨Nat.le_of_ble_eq_true rfl, Nat.le_of_ble_eq_true rfl⟩ rfl rfl hl.1 (lv_room (Nat.le_of_ble_eq_true rfl)) d_Desk_transfer_167 (fun H locs hP hD hS => ?_)
        refine lv_aload_n hx hb d_Desk_transfer_170 rfl (lv_at hl 1 rfl) ?_
        obtain ⟨σ27, q28, hF⟩ := vB1_some hF
        refine ed_cvV (As := []) (rest := []) B hP hD hS hA (C_Desk_lookWhoRuns l D ad ca  σ25 σ27  q28) me_Desk_lookWhoRuns mv_Desk_lookWhoRuns L_Desk_89 (ed_rc_Desk B hP (by decide)) ⟨rfl, rfl⟩ ⟨Nat.le_of_ble_eq_true rfl, Nat.le_of_ble_eq_true rfl⟩ rfl rfl hl.1 (lv_room (Nat.le_of_ble_eq_true rfl)) d_Desk_transfer_171 (fun H locs hP hD hS => ?_)
        refine lv_iload hx hb d_Desk_transfer_174 (lv_at hl 0 rfl) ?_
        exact ed_rI B hr hA hP hD hS (vP hF) d_Desk_transfer_176
      · have hF := vIt c12 hF
        refine lv_bipush (v := (-2)) hx hb d_Desk_transfer_126 (by decide) ?_
        exact ed_rI B hr hA hP hD hS (vP hF) d_Desk_transfer_128
    · have hF := vIf c8 hF
      refine lv_bipush (v := (-5)) hx hb d_Desk_transfer_111 (by decide) ?_
      exact ed_rI B hr hA hP hD hS (vP hF) d_Desk_transfer_113
set_option maxHeartbeats 4000000 in
set_option maxRecDepth 100000 in
theorem T_Desk_transfer {r : Int32} {σ' : ed_S} (B : ed_B p s m args meth c prog_1_method_13_code "ExecutiveDesk" 9 D ca) (hr : meth.sig.returnType = (some .int)) (hA : ∀ q : Nat, s.heap.size ≤ q → A q) : ∀ (x1 : Int32) (x2 : Int32) (x3 : Int32) (x4 : Int32) (σ : ed_S), F_Desk_transfer  x1 x2 x3 x4 σ = some (r, σ') → ed_G p l e rm_Desk_transfer s m args below meth c D ca (ed_w ad ca) A (ed_QI D ca (ed_w ad ca) A below args s r σ') 9 0 [(0, .ref (ad (pDesk 0))), (1, .int x1), (2, .int x2), (3, .int x3), (4, .int x4)] [] σ := by
  have hx := B.1
  have hb := B.2.1
  intro x1 x2 x3 x4 σ  hF H locs ls hP hD hS hl
  have hF : (if (σ 5 0 0) = (-1) then (some ((-3), σ)) else (vBr (F_Desk_processOfRunning  σ) 4 fun j4 σ2 => (vB2 (F_Proc_objectOf j4 x1 σ2) fun r8 σ6 => (vB2 (F_Proc_objectOf j4 x4 σ6) fun r11 σ9 => (vB2 (F_Desk_isOfType r8 5 5 σ9) fun r14 σ12 => (if r14 = 0 then (some ((-1), σ12)) else (vB2 (F_Desk_isWithin x2 0 255 σ12) fun r18 σ16 => (if r18 = 0 then (some ((-1), σ16)) else (vB2 (F_Desk_isWithin x3 1 99 σ16) fun r22 σ20 => (if r22 = 0 then (some ((-1), σ20)) else (if x4 = (-1) then (F_Desk_transfer_90  x1 x2 x3 x4 j4 r8 r11 σ20) else (vB2 (F_Desk_isOfType r11 0 1 σ20) fun r27 σ25 => (if r27 = 0 then (some ((-1), σ25)) else (F_Desk_transfer_90  x1 x2 x3 x4 j4 r8 r11 σ25)))))))))))))) = some (r, σ') := hF
  refine lv_aload_n hx hb d_Desk_transfer_0 rfl (lv_at hl 0 rfl) ?_
  refine gf_Desk_scheduler B hP (by decide) L_Desk_18 d_Desk_transfer_1 ?_
  refine gf_Sched_running B hP (by decide) L_Desk_92 d_Desk_transfer_4 ?_
  refine lv_iconst (v := (-1)) hx hb d_Desk_transfer_7 (by decide) ?_
  refine lv_icmp_ne (tgt := 14) hx hb d_Desk_transfer_8 (by decide) (fun c1 => ?_) (fun c1 => ?_)
  · have hF := vIf c1 hF
    refine lv_aload_n hx hb d_Desk_transfer_14 rfl (lv_at hl 0 rfl) ?_
    obtain ⟨j4, σ2, q3, hj5, hF⟩ := vBr_some hF
    refine ed_cvR (As := []) (rest := []) B hP hD hS hA (C_Desk_processOfRunning l D ad ca  σ j4 σ2  q3) me_Desk_processOfRunning mv_Desk_processOfRunning L_Desk_102 (ed_rc_Desk B hP (by decide)) ⟨rfl, rfl⟩ ⟨Nat.le_of_ble_eq_true rfl, Nat.le_of_ble_eq_true rfl⟩ rfl rfl hl.1 (lv_room (Nat.le_of_ble_eq_true rfl)) d_Desk_transfer_15 (fun H locs hP hD hS => ?_)
    refine lv_astore (lv' := [(5, .ref (ad (pProc j4))), (0, .ref (ad (pDesk 0))), (1, .int x1), (2, .int x2), (3, .int x3), (4, .int x4)]) hx hb d_Desk_transfer_18 hl (by decide) rfl (fun ls hl => ?_)
    refine lv_aload hx hb d_Desk_transfer_20 (lv_at hl 0 rfl) ?_
    refine lv_iload_n hx hb d_Desk_transfer_22 rfl (lv_at hl 2 rfl) ?_
    obtain ⟨r8, σ6, q7, hF⟩ := vB2_some hF
    refine ed_cvI (As := [.int x1]) (rest := []) B hP hD hS hA (C_Proc_objectOf l D ad ca j4 x1 σ2 r8 σ6 hj5 q7) me_Proc_objectOf mv_Proc_objectOf L_Desk_134 (ed_rc_Proc B hP hj5) ⟨rfl, rfl⟩ ⟨Nat.le_of_ble_eq_true rfl, Nat.le_of_ble_eq_true rfl⟩ rfl rfl hl.1 (lv_room (Nat.le_of_ble_eq_true rfl)) d_Desk_transfer_23 (fun H locs hP hD hS => ?_)
    refine lv_istore (lv' := [(6, .int r8), (5, .ref (ad (pProc j4))), (0, .ref (ad (pDesk 0))), (1, .int x1), (2, .int x2), (3, .int x3), (4, .int x4)]) hx hb d_Desk_transfer_26 hl (by decide) rfl (fun ls hl => ?_)
    refine lv_aload hx hb d_Desk_transfer_28 (lv_at hl 1 rfl) ?_
    refine lv_iload hx hb d_Desk_transfer_30 (lv_at hl 6 rfl) ?_
    obtain ⟨r11, σ9, q10, hF⟩ := vB2_some hF
    refine ed_cvI (As := [.int x4]) (rest := []) B hP hD hS hA (C_Proc_objectOf l D ad ca j4 x4 σ6 r11 σ9 hj5 q10) me_Proc_objectOf mv_Proc_objectOf L_Desk_134 (ed_rc_Proc B hP hj5) ⟨rfl, rfl⟩ ⟨Nat.le_of_ble_eq_true rfl, Nat.le_of_ble_eq_true rfl⟩ rfl rfl hl.1 (lv_room (Nat.le_of_ble_eq_true rfl)) d_Desk_transfer_32 (fun H locs hP hD hS => ?_)
    refine lv_istore (lv' := [(7, .int r11), (6, .int r8), (5, .ref (ad (pProc j4))), (0, .ref (ad (pDesk 0))), (1, .int x1), (2, .int x2), (3, .int x3), (4, .int x4)]) hx hb d_Desk_transfer_35 hl (by decide) rfl (fun ls hl => ?_)
    refine lv_aload_n hx hb d_Desk_transfer_37 rfl (lv_at hl 3 rfl) ?_
    refine lv_iload hx hb d_Desk_transfer_38 (lv_at hl 1 rfl) ?_
    refine lv_iconst (v := 5) hx hb d_Desk_transfer_40 (by decide) ?_
    refine lv_iconst (v := 5) hx hb d_Desk_transfer_41 (by decide) ?_
    obtain ⟨r14, σ12, q13, hF⟩ := vB2_some hF
    refine ed_cvI (As := [.int r8, .int 5, .int 5]) (rest := []) B hP hD hS hA (C_Desk_isOfType l D ad ca r8 5 5 σ9 r14 σ12  q13) me_Desk_isOfType mv_Desk_isOfType L_Desk_215 (ed_rc_Desk B hP (by decide)) ⟨rfl, rfl⟩ ⟨Nat.le_of_ble_eq_true rfl, Nat.le_of_ble_eq_true rfl⟩ rfl rfl hl.1 (lv_room (Nat.le_of_ble_eq_true rfl)) d_Desk_transfer_42 (fun H locs hP hD hS => ?_)
    refine lv_if_eq (tgt := 69) hx hb d_Desk_transfer_45 (by decide) (fun c15 => ?_) (fun c15 => ?_)
    · have hF := vIt c15 hF
      refine lv_iconst (v := (-1)) hx hb d_Desk_transfer_69 (by decide) ?_
      exact ed_rI B hr hA hP hD hS (vP hF) d_Desk_transfer_70
    · have hF := vIf c15 hF
      refine lv_iload_n hx hb d_Desk_transfer_48 rfl (lv_at hl 5 rfl) ?_
      refine lv_iconst (v := 0) hx hb d_Desk_transfer_49 (by decide) ?_
      refine lv_sipush (v := 255) hx hb d_Desk_transfer_50 (by decide) ?_
      obtain ⟨r18, σ16, q17, hF⟩ := vB2_some hF
      refine ed_csI (As := [.int x2, .int 0, .int 255]) (rest := []) B hP hD hS hA (C_Desk_isWithin l D ad ca x2 0 255 σ12 r18 σ16  q17) me_Desk_isWithin st_Desk_isWithin L_Desk_54 ⟨rfl, rfl⟩ ⟨Nat.le_of_ble_eq_true rfl, Nat.le_of_ble_eq_true rfl⟩ rfl rfl hl.1 (lv_room (Nat.le_of_ble_eq_true rfl)) d_Desk_transfer_53 (fun H locs hP hD hS => ?_)
      refine lv_if_eq (tgt := 69) hx hb d_Desk_transfer_56 (by decide) (fun c19 => ?_) (fun c19 => ?_)
      · have hF := vIt c19 hF
        refine lv_iconst (v := (-1)) hx hb d_Desk_transfer_69 (by decide) ?_
        exact ed_rI B hr hA hP hD hS (vP hF) d_Desk_transfer_70
      · have hF := vIf c19 hF
        refine lv_iload_n hx hb d_Desk_transfer_59 rfl (lv_at hl 6 rfl) ?_
        refine lv_iconst (v := 1) hx hb d_Desk_transfer_60 (by decide) ?_
        refine lv_bipush (v := 99) hx hb d_Desk_transfer_61 (by decide) ?_
        obtain ⟨r22, σ20, q21, hF⟩ := vB2_some hF
        refine ed_csI (As := [.int x3, .int 1, .int 99]) (rest := []) B hP hD hS hA (C_Desk_isWithin l D ad ca x3 1 99 σ16 r22 σ20  q21) me_Desk_isWithin st_Desk_isWithin L_Desk_54 ⟨rfl, rfl⟩ ⟨Nat.le_of_ble_eq_true rfl, Nat.le_of_ble_eq_true rfl⟩ rfl rfl hl.1 (lv_room (Nat.le_of_ble_eq_true rfl)) d_Desk_transfer_63 (fun H locs hP hD hS => ?_)
        refine lv_if_ne (tgt := 71) hx hb d_Desk_transfer_66 (by decide) (fun c23 => ?_) (fun c23 => ?_)
        · have hF := vIf c23 hF
          refine lv_iload hx hb d_Desk_transfer_71 (lv_at hl 7 rfl) ?_
          refine lv_iconst (v := (-1)) hx hb d_Desk_transfer_73 (by decide) ?_
          refine lv_icmp_eq (tgt := 90) hx hb d_Desk_transfer_74 (by decide) (fun c24 => ?_) (fun c24 => ?_)
          · have hF := vIt c24 hF
            exact T_Desk_transfer_90 B hr hA  x1 x2 x3 x4 j4 r8 r11 σ20 hj5 hF _ _ _ hP hD hS (lv_sub hl [3, 4, 5, 6, 7, 2, 1, 0] rfl)
          · have hF := vIf c24 hF
            refine lv_aload_n hx hb d_Desk_transfer_77 rfl (lv_at hl 3 rfl) ?_
            refine lv_iload hx hb d_Desk_transfer_78 (lv_at hl 0 rfl) ?_
            refine lv_iconst (v := 0) hx hb d_Desk_transfer_80 (by decide) ?_
            refine lv_iconst (v := 1) hx hb d_Desk_transfer_81 (by decide) ?_
            obtain ⟨r27, σ25, q26, hF⟩ := vB2_some hF
            refine ed_cvI (As := [.int r11, .int 0, .int 1]) (rest := []) B hP hD hS hA (C_Desk_isOfType l D ad ca r11 0 1 σ20 r27 σ25  q26) me_Desk_isOfType mv_Desk_isOfType L_Desk_215 (ed_rc_Desk B hP (by decide)) ⟨rfl, rfl⟩ ⟨Nat.le_of_ble_eq_true rfl, Nat.le_of_ble_eq_true rfl⟩ rfl rfl hl.1 (lv_room (Nat.le_of_ble_eq_true rfl)) d_Desk_transfer_82 (fun H locs hP hD hS => ?_)
            refine lv_if_ne (tgt := 90) hx hb d_Desk_transfer_85 (by decide) (fun c28 => ?_) (fun c28 => ?_)
            · have hF := vIf c28 hF
              exact T_Desk_transfer_90 B hr hA  x1 x2 x3 x4 j4 r8 r11 σ25 hj5 hF _ _ _ hP hD hS (lv_sub hl [3, 4, 5, 6, 7, 2, 1, 0] rfl)
            · have hF := vIt c28 hF
              refine lv_iconst (v := (-1)) hx hb d_Desk_transfer_88 (by decide) ?_
              exact ed_rI B hr hA hP hD hS (vP hF) d_Desk_transfer_89
        · have hF := vIt c23 hF
          refine lv_iconst (v := (-1)) hx hb d_Desk_transfer_69 (by decide) ?_
          exact ed_rI B hr hA hP hD hS (vP hF) d_Desk_transfer_70
  · have hF := vIt c1 hF
    refine lv_bipush (v := (-3)) hx hb d_Desk_transfer_11 (by decide) ?_
    exact ed_rI B hr hA hP hD hS (vP hF) d_Desk_transfer_13
set_option maxHeartbeats 4000000 in
set_option maxRecDepth 100000 in
theorem C_Desk_transfer (l : Launch) (D : va_G) (ad : Nat → Nat) (ca : Nat → ClassId) (x1 : Int32) (x2 : Int32) (x3 : Int32) (x4 : Int32) (σ : ed_S) (r : Int32) (σ' : ed_S) (hF : F_Desk_transfer x1 x2 x3 x4 σ = some (r, σ')) : ed_MI l y_Desk_transfer ws_Desk_transfer rm_Desk_transfer D ca (ed_w ad ca) [.ref (ad (pDesk 0)), .int x1, .int x2, .int x3, .int x4] σ r σ' := by
  refine ed_metI (cc := prog_1_method_13_code) (own := "ExecutiveDesk") (nL := 9) (ret := (some .int)) (by decide) rfl rfl (Nat.le_of_ble_eq_true rfl) ?_
  intro p e s m args below meth c A B hr hA
  exact T_Desk_transfer B hr hA x1 x2 x3 x4 σ  hF
abbrev ws_Desk_isPending : List Cond := Cond.code y_Desk_isPending prog_1_method_29_code 2 (some .boolean) :: ed_tb
abbrev rm_Desk_isPending : Room := { frames := 1, cells := 0, slots := 0, locals := 22 }
def F_Desk_isPending (x1 : Int32) (σ : ed_S) : Option (Int32 × ed_S) := (vB2 (F_Desk_isWithin x1 0 7 σ) fun r3 σ1 => (if r3 = 0 then (some (0, σ1)) else (vG x1 8 fun j5 => (if (σ1 31 j5 0) = 0 then (some (1, σ1)) else (some (0, σ1))))))
set_option maxHeartbeats 4000000 in
set_option maxRecDepth 100000 in
theorem T_Desk_isPending {r : Int32} {σ' : ed_S} (B : ed_B p s m args meth c prog_1_method_29_code "ExecutiveDesk" 2 D ca) (hr : meth.sig.returnType = (some .boolean)) (hA : ∀ q : Nat, s.heap.size ≤ q → A q) : ∀ (x1 : Int32) (σ : ed_S), F_Desk_isPending  x1 σ = some (r, σ') → ed_G p l e rm_Desk_isPending s m args below meth c D ca (ed_w ad ca) A (ed_QI D ca (ed_w ad ca) A below args s r σ') 2 0 [(0, .ref (ad (pDesk 0))), (1, .int x1)] [] σ := by
  have hx := B.1
  have hb := B.2.1
  intro x1 σ  hF H locs ls hP hD hS hl
  have hF : (vB2 (F_Desk_isWithin x1 0 7 σ) fun r3 σ1 => (if r3 = 0 then (some (0, σ1)) else (vG x1 8 fun j5 => (if (σ1 31 j5 0) = 0 then (some (1, σ1)) else (some (0, σ1)))))) = some (r, σ') := hF
  refine lv_iload_n hx hb d_Desk_isPending_0 rfl (lv_at hl 1 rfl) ?_
  refine lv_iconst (v := 0) hx hb d_Desk_isPending_1 (by decide) ?_
  refine lv_bipush (v := 7) hx hb d_Desk_isPending_2 (by decide) ?_
  obtain ⟨r3, σ1, q2, hF⟩ := vB2_some hF
  refine ed_csI (As := [.int x1, .int 0, .int 7]) (rest := []) B hP hD hS hA (C_Desk_isWithin l D ad ca x1 0 7 σ r3 σ1  q2) me_Desk_isWithin st_Desk_isWithin L_Desk_54 ⟨rfl, rfl⟩ ⟨Nat.le_of_ble_eq_true rfl, Nat.le_of_ble_eq_true rfl⟩ rfl rfl hl.1 (lv_room (Nat.le_of_ble_eq_true rfl)) d_Desk_isPending_4 (fun H locs hP hD hS => ?_)
  refine lv_if_eq (tgt := 26) hx hb d_Desk_isPending_7 (by decide) (fun c4 => ?_) (fun c4 => ?_)
  · have hF := vIt c4 hF
    refine lv_iconst (v := 0) hx hb d_Desk_isPending_26 (by decide) ?_
    exact ed_rZ B hr hA hP hD hS (by decide) (vP hF) d_Desk_isPending_27
  · have hF := vIf c4 hF
    refine lv_aload_n hx hb d_Desk_isPending_10 rfl (lv_at hl 0 rfl) ?_
    refine gf_Desk_transfers B hP (by decide) L_Desk_35 d_Desk_isPending_11 ?_
    refine lv_iload_n hx hb d_Desk_isPending_14 rfl (lv_at hl 1 rfl) ?_
    obtain ⟨j5, ej6, hj7, hn8, hF⟩ := vG_some hF
    refine al_ATra B hP (by decide) hn8 ej6 hj7 d_Desk_isPending_15 ?_
    refine gf_Tra_status B hP hj7 L_Desk_283 d_Desk_isPending_16 ?_
    refine lv_if_ne (tgt := 26) hx hb d_Desk_isPending_19 (by decide) (fun c9 => ?_) (fun c9 => ?_)
    · have hF := vIf c9 hF
      refine lv_iconst (v := 0) hx hb d_Desk_isPending_26 (by decide) ?_
      exact ed_rZ B hr hA hP hD hS (by decide) (vP hF) d_Desk_isPending_27
    · have hF := vIt c9 hF
      refine lv_iconst (v := 1) hx hb d_Desk_isPending_22 (by decide) ?_
      refine lv_goto (tgt := 27) hx hb d_Desk_isPending_23 (by decide) ?_
      exact ed_rZ B hr hA hP hD hS (by decide) (vP hF) d_Desk_isPending_27
set_option maxHeartbeats 4000000 in
set_option maxRecDepth 100000 in
theorem C_Desk_isPending (l : Launch) (D : va_G) (ad : Nat → Nat) (ca : Nat → ClassId) (x1 : Int32) (σ : ed_S) (r : Int32) (σ' : ed_S) (hF : F_Desk_isPending x1 σ = some (r, σ')) : ed_MI l y_Desk_isPending ws_Desk_isPending rm_Desk_isPending D ca (ed_w ad ca) [.ref (ad (pDesk 0)), .int x1] σ r σ' := by
  refine ed_metI (cc := prog_1_method_29_code) (own := "ExecutiveDesk") (nL := 2) (ret := (some .boolean)) (by decide) rfl rfl (Nat.le_of_ble_eq_true rfl) ?_
  intro p e s m args below meth c A B hr hA
  exact T_Desk_isPending B hr hA x1 σ  hF
abbrev ws_Row_first : List Cond := Cond.code y_Row_first prog_4_method_3_code 1 (some .int) :: ed_tb
abbrev rm_Row_first : Room := { frames := 0, cells := 0, slots := 0, locals := 0 }
def F_Row_first (i0 : Nat) (σ : ed_S) : Option (Int32 × ed_S) := (if (σ 18 i0 0) ≤ 0 then (some ((-1), σ)) else (vG 0 (ed_cap i0) fun j2 => (some ((σ 39 i0 j2), σ))))
set_option maxHeartbeats 4000000 in
set_option maxRecDepth 100000 in
theorem T_Row_first {r : Int32} {σ' : ed_S} (B : ed_B p s m args meth c prog_4_method_3_code "ExecutiveDesk$Row" 1 D ca) (hr : meth.sig.returnType = (some .int)) (hA : ∀ q : Nat, s.heap.size ≤ q → A q) : ∀ (i0 : Nat) (σ : ed_S), i0 < 34 → F_Row_first  i0 σ = some (r, σ') → ed_G p l e rm_Row_first s m args below meth c D ca (ed_w ad ca) A (ed_QI D ca (ed_w ad ca) A below args s r σ') 1 0 [(0, .ref (ad (pRow i0)))] [] σ := by
  have hx := B.1
  have hb := B.2.1
  intro i0 σ h0 hF H locs ls hP hD hS hl
  have hF : (if (σ 18 i0 0) ≤ 0 then (some ((-1), σ)) else (vG 0 (ed_cap i0) fun j2 => (some ((σ 39 i0 j2), σ)))) = some (r, σ') := hF
  refine lv_aload_n hx hb d_Row_first_0 rfl (lv_at hl 0 rfl) ?_
  refine gf_Row_size B hP h0 L_Row_15 d_Row_first_1 ?_
  refine lv_if_le (tgt := 16) hx hb d_Row_first_4 (by decide) (fun c1 => ?_) (fun c1 => ?_)
  · have hF := vIt c1 hF
    refine lv_iconst (v := (-1)) hx hb d_Row_first_16 (by decide) ?_
    exact ed_rI B hr hA hP hD hS (vP hF) d_Row_first_17
  · have hF := vIf c1 hF
    refine lv_aload_n hx hb d_Row_first_7 rfl (lv_at hl 0 rfl) ?_
    refine gf_Row_items B hP h0 L_Row_9 d_Row_first_8 ?_
    refine lv_iconst (v := 0) hx hb d_Row_first_11 (by decide) ?_
    obtain ⟨j2, ej3, hj4, hn5, hF⟩ := vG_some hF
    refine il_Itm B hP h0 hn5 ej3 d_Row_first_12 ?_
    refine lv_goto (tgt := 17) hx hb d_Row_first_13 (by decide) ?_
    exact ed_rI B hr hA hP hD hS (vP hF) d_Row_first_17
set_option maxHeartbeats 4000000 in
set_option maxRecDepth 100000 in
theorem C_Row_first (l : Launch) (D : va_G) (ad : Nat → Nat) (ca : Nat → ClassId) (i0 : Nat) (σ : ed_S) (r : Int32) (σ' : ed_S) (h0 : i0 < 34) (hF : F_Row_first i0 σ = some (r, σ')) : ed_MI l y_Row_first ws_Row_first rm_Row_first D ca (ed_w ad ca) [.ref (ad (pRow i0))] σ r σ' := by
  refine ed_metI (cc := prog_4_method_3_code) (own := "ExecutiveDesk$Row") (nL := 1) (ret := (some .int)) (by decide) rfl rfl (Nat.le_of_ble_eq_true rfl) ?_
  intro p e s m args below meth c A B hr hA
  exact T_Row_first B hr hA i0 σ h0 hF
abbrev ws_Desk_withdraw : List Cond := Cond.code y_Desk_withdraw prog_1_method_54_code 3 (some .int) :: ed_tb
abbrev rm_Desk_withdraw : Room := { frames := 5, cells := 0, slots := 0, locals := 114 }
def F_Desk_withdraw (x1 : Int32) (σ : ed_S) : Option (Int32 × ed_S) := (vG x1 8 fun j1 => (vG (σ 34 j1 0) 16 fun j5 => (vB2 (F_Row_first (16 + j5) σ) fun r11 σ9 => (if r11 = x1 then (vG x1 8 fun j21 => (vL (ed_st σ9 37 j21 0 1) fun σ25 => (some (0, σ25)))) else (vB1 (F_Row_removeValue (16 + j5) x1 σ9) fun σ13 => (vG x1 8 fun j15 => (vB1 (F_Desk_conclude j15 5 0 σ13) fun σ19 => (some (1, σ19)))))))))
set_option maxHeartbeats 4000000 in
set_option maxRecDepth 100000 in
theorem T_Desk_withdraw {r : Int32} {σ' : ed_S} (B : ed_B p s m args meth c prog_1_method_54_code "ExecutiveDesk" 3 D ca) (hr : meth.sig.returnType = (some .int)) (hA : ∀ q : Nat, s.heap.size ≤ q → A q) : ∀ (x1 : Int32) (σ : ed_S), F_Desk_withdraw  x1 σ = some (r, σ') → ed_G p l e rm_Desk_withdraw s m args below meth c D ca (ed_w ad ca) A (ed_QI D ca (ed_w ad ca) A below args s r σ') 3 0 [(0, .ref (ad (pDesk 0))), (1, .int x1)] [] σ := by
  have hx := B.1
  have hb := B.2.1
  intro x1 σ  hF H locs ls hP hD hS hl
  have hF : (vG x1 8 fun j1 => (vG (σ 34 j1 0) 16 fun j5 => (vB2 (F_Row_first (16 + j5) σ) fun r11 σ9 => (if r11 = x1 then (vG x1 8 fun j21 => (vL (ed_st σ9 37 j21 0 1) fun σ25 => (some (0, σ25)))) else (vB1 (F_Row_removeValue (16 + j5) x1 σ9) fun σ13 => (vG x1 8 fun j15 => (vB1 (F_Desk_conclude j15 5 0 σ13) fun σ19 => (some (1, σ19))))))))) = some (r, σ') := hF
  refine lv_aload_n hx hb d_Desk_withdraw_0 rfl (lv_at hl 0 rfl) ?_
  refine gf_Desk_objects B hP (by decide) L_Desk_29 d_Desk_withdraw_1 ?_
  refine lv_aload_n hx hb d_Desk_withdraw_4 rfl (lv_at hl 0 rfl) ?_
  refine gf_Desk_transfers B hP (by decide) L_Desk_35 d_Desk_withdraw_5 ?_
  refine lv_iload_n hx hb d_Desk_withdraw_8 rfl (lv_at hl 1 rfl) ?_
  obtain ⟨j1, ej2, hj3, hn4, hF⟩ := vG_some hF
  refine al_ATra B hP (by decide) hn4 ej2 hj3 d_Desk_withdraw_9 ?_
  refine gf_Tra_device B hP hj3 L_Desk_289 d_Desk_withdraw_10 ?_
  obtain ⟨j5, ej6, hj7, hn8, hF⟩ := vG_some hF
  refine al_AObj B hP (by decide) hn8 ej6 hj7 d_Desk_withdraw_13 ?_
  refine gf_Obj_row B hP hj7 L_Desk_270 d_Desk_withdraw_14 ?_
  refine lv_astore_n (lv' := [(2, .ref (ad (pRow (16 + j5)))), (0, .ref (ad (pDesk 0))), (1, .int x1)]) hx hb d_Desk_withdraw_17 rfl hl (by decide) rfl (fun ls hl => ?_)
  refine lv_aload_n hx hb d_Desk_withdraw_18 rfl (lv_at hl 0 rfl) ?_
  obtain ⟨r11, σ9, q10, hF⟩ := vB2_some hF
  refine ed_cvI (As := []) (rest := []) B hP hD hS hA (C_Row_first l D ad ca (16 + j5) σ r11 σ9 (ed_b16 hj7) q10) me_Row_first mv_Row_first L_Desk_321 (ed_rc_Row B hP (ed_b16 hj7)) ⟨rfl, rfl⟩ ⟨Nat.le_of_ble_eq_true rfl, Nat.le_of_ble_eq_true rfl⟩ rfl rfl hl.1 (lv_room (Nat.le_of_ble_eq_true rfl)) d_Desk_withdraw_19 (fun H locs hP hD hS => ?_)
  refine lv_iload_n hx hb d_Desk_withdraw_22 rfl (lv_at hl 2 rfl) ?_
  refine lv_icmp_ne (tgt := 38) hx hb d_Desk_withdraw_23 (by decide) (fun c12 => ?_) (fun c12 => ?_)
  · have hF := vIf c12 hF
    refine lv_aload_n hx hb d_Desk_withdraw_38 rfl (lv_at hl 0 rfl) ?_
    refine lv_iload_n hx hb d_Desk_withdraw_39 rfl (lv_at hl 2 rfl) ?_
    obtain ⟨σ13, q14, hF⟩ := vB1_some hF
    refine ed_cvV (As := [.int x1]) (rest := []) B hP hD hS hA (C_Row_removeValue l D ad ca (16 + j5) x1 σ9 σ13 (ed_b16 hj7) q14) me_Row_removeValue mv_Row_removeValue L_Desk_368 (ed_rc_Row B hP (ed_b16 hj7)) ⟨rfl, rfl⟩ ⟨Nat.le_of_ble_eq_true rfl, Nat.le_of_ble_eq_true rfl⟩ rfl rfl hl.1 (lv_room (Nat.le_of_ble_eq_true rfl)) d_Desk_withdraw_40 (fun H locs hP hD hS => ?_)
    refine lv_aload_n hx hb d_Desk_withdraw_43 rfl (lv_at hl 1 rfl) ?_
    refine lv_aload_n hx hb d_Desk_withdraw_44 rfl (lv_at hl 1 rfl) ?_
    refine gf_Desk_transfers B hP (by decide) L_Desk_35 d_Desk_withdraw_45 ?_
    refine lv_iload_n hx hb d_Desk_withdraw_48 rfl (lv_at hl 2 rfl) ?_
    obtain ⟨j15, ej16, hj17, hn18, hF⟩ := vG_some hF
    refine al_ATra B hP (by decide) hn18 ej16 hj17 d_Desk_withdraw_49 ?_
    refine lv_iconst (v := 5) hx hb d_Desk_withdraw_50 (by decide) ?_
    refine lv_iconst (v := 0) hx hb d_Desk_withdraw_51 (by decide) ?_
    obtain ⟨σ19, q20, hF⟩ := vB1_some hF
    refine ed_cvV (As := [.ref (ad (pTra j15)), .int 5, .int 0]) (rest := []) B hP hD hS hA (C_Desk_conclude l D ad ca j15 5 0 σ13 σ19 hj17 q20) me_Desk_conclude mv_Desk_conclude L_Desk_377 (ed_rc_Desk B hP (by decide)) ⟨rfl, rfl⟩ ⟨Nat.le_of_ble_eq_true rfl, Nat.le_of_ble_eq_true rfl⟩ rfl rfl hl.1 (lv_room (Nat.le_of_ble_eq_true rfl)) d_Desk_withdraw_52 (fun H locs hP hD hS => ?_)
    refine lv_iconst (v := 1) hx hb d_Desk_withdraw_55 (by decide) ?_
    exact ed_rI B hr hA hP hD hS (vP hF) d_Desk_withdraw_56
  · have hF := vIt c12 hF
    refine lv_aload_n hx hb d_Desk_withdraw_26 rfl (lv_at hl 1 rfl) ?_
    refine gf_Desk_transfers B hP (by decide) L_Desk_35 d_Desk_withdraw_27 ?_
    refine lv_iload_n hx hb d_Desk_withdraw_30 rfl (lv_at hl 2 rfl) ?_
    obtain ⟨j21, ej22, hj23, hn24, hF⟩ := vG_some hF
    refine al_ATra B hP (by decide) hn24 ej22 hj23 d_Desk_withdraw_31 ?_
    refine lv_iconst (v := 1) hx hb d_Desk_withdraw_32 (by decide) ?_
    obtain ⟨σ25, e26, hF⟩ := vL_some hF
    refine pf_Tra_toBeCancelled B hP hD hS hj23 (by decide) e26 L_Desk_295 d_Desk_withdraw_33 (fun H locs hP hD hS => ?_)
    refine lv_iconst (v := 0) hx hb d_Desk_withdraw_36 (by decide) ?_
    exact ed_rI B hr hA hP hD hS (vP hF) d_Desk_withdraw_37
set_option maxHeartbeats 4000000 in
set_option maxRecDepth 100000 in
theorem C_Desk_withdraw (l : Launch) (D : va_G) (ad : Nat → Nat) (ca : Nat → ClassId) (x1 : Int32) (σ : ed_S) (r : Int32) (σ' : ed_S) (hF : F_Desk_withdraw x1 σ = some (r, σ')) : ed_MI l y_Desk_withdraw ws_Desk_withdraw rm_Desk_withdraw D ca (ed_w ad ca) [.ref (ad (pDesk 0)), .int x1] σ r σ' := by
  refine ed_metI (cc := prog_1_method_54_code) (own := "ExecutiveDesk") (nL := 3) (ret := (some .int)) (by decide) rfl rfl (Nat.le_of_ble_eq_true rfl) ?_
  intro p e s m args below meth c A B hr hA
  exact T_Desk_withdraw B hr hA x1 σ  hF
end EDT
