section EDT
variable {p : Program} {l : Launch} {e : Env} {s : State} {m : MethodId} {args : Array Value} {below : List Frame} {meth : Method} {c : Code} {D : va_G} {ad : Nat → Nat} {ca : Nat → ClassId} {A : Nat → Prop}
abbrev ws_Desk_cancel : List Cond := Cond.code y_Desk_cancel prog_1_method_14_code 3 (some .int) :: ed_tb
abbrev rm_Desk_cancel : Room := { frames := 6, cells := 0, slots := 0, locals := 136 }
def F_Desk_cancel (x1 : Int32) (σ : ed_S) : Option (Int32 × ed_S) := (if (σ 5 0 0) = (-1) then (some ((-3), σ)) else (vB2 (F_Desk_isPending x1 σ) fun r4 σ2 => (if r4 = 0 then (some ((-1), σ2)) else (vB2 (F_Desk_withdraw x1 σ2) fun r8 σ6 => (vB1 (F_Desk_lookWhoRuns  σ6) fun σ9 => (some (r8, σ9)))))))
set_option maxHeartbeats 4000000 in
set_option maxRecDepth 100000 in
theorem T_Desk_cancel {r : Int32} {σ' : ed_S} (B : ed_B p s m args meth c prog_1_method_14_code "ExecutiveDesk" 3 D ca) (hr : meth.sig.returnType = (some .int)) (hA : ∀ q : Nat, s.heap.size ≤ q → A q) : ∀ (x1 : Int32) (σ : ed_S), F_Desk_cancel  x1 σ = some (r, σ') → ed_G p l e rm_Desk_cancel s m args below meth c D ca (ed_w ad ca) A (ed_QI D ca (ed_w ad ca) A below args s r σ') 3 0 [(0, .ref (ad (pDesk 0))), (1, .int x1)] [] σ := by
  have hx := B.1
  have hb := B.2.1
  intro x1 σ  hF H locs ls hP hD hS hl
  have hF : (if (σ 5 0 0) = (-1) then (some ((-3), σ)) else (vB2 (F_Desk_isPending x1 σ) fun r4 σ2 => (if r4 = 0 then (some ((-1), σ2)) else (vB2 (F_Desk_withdraw x1 σ2) fun r8 σ6 => (vB1 (F_Desk_lookWhoRuns  σ6) fun σ9 => (some (r8, σ9))))))) = some (r, σ') := hF
  refine lv_aload_n hx hb d_Desk_cancel_0 rfl (lv_at hl 0 rfl) ?_
  refine gf_Desk_scheduler B hP (by decide) L_Desk_18 d_Desk_cancel_1 ?_
  refine gf_Sched_running B hP (by decide) L_Desk_92 d_Desk_cancel_4 ?_
  refine lv_iconst (v := (-1)) hx hb d_Desk_cancel_7 (by decide) ?_
  refine lv_icmp_ne (tgt := 14) hx hb d_Desk_cancel_8 (by decide) (fun c1 => ?_) (fun c1 => ?_)
  · have hF := vIf c1 hF
    refine lv_aload_n hx hb d_Desk_cancel_14 rfl (lv_at hl 0 rfl) ?_
    refine lv_iload_n hx hb d_Desk_cancel_15 rfl (lv_at hl 1 rfl) ?_
    obtain ⟨r4, σ2, q3, hF⟩ := vB2_some hF
    refine ed_cvI (As := [.int x1]) (rest := []) B hP hD hS hA (C_Desk_isPending l D ad ca x1 σ r4 σ2  q3) me_Desk_isPending mv_Desk_isPending L_Desk_230 (ed_rc_Desk B hP (by decide)) ⟨rfl, rfl⟩ ⟨Nat.le_of_ble_eq_true rfl, Nat.le_of_ble_eq_true rfl⟩ rfl rfl hl.1 (lv_room (Nat.le_of_ble_eq_true rfl)) d_Desk_cancel_16 (fun H locs hP hD hS => ?_)
    refine lv_if_ne (tgt := 24) hx hb d_Desk_cancel_19 (by decide) (fun c5 => ?_) (fun c5 => ?_)
    · have hF := vIf c5 hF
      refine lv_aload_n hx hb d_Desk_cancel_24 rfl (lv_at hl 0 rfl) ?_
      refine lv_iload_n hx hb d_Desk_cancel_25 rfl (lv_at hl 1 rfl) ?_
      obtain ⟨r8, σ6, q7, hF⟩ := vB2_some hF
      refine ed_cvI (As := [.int x1]) (rest := []) B hP hD hS hA (C_Desk_withdraw l D ad ca x1 σ2 r8 σ6  q7) me_Desk_withdraw mv_Desk_withdraw L_Desk_233 (ed_rc_Desk B hP (by decide)) ⟨rfl, rfl⟩ ⟨Nat.le_of_ble_eq_true rfl, Nat.le_of_ble_eq_true rfl⟩ rfl rfl hl.1 (lv_room (Nat.le_of_ble_eq_true rfl)) d_Desk_cancel_26 (fun H locs hP hD hS => ?_)
      refine lv_istore_n (lv' := [(2, .int r8), (0, .ref (ad (pDesk 0))), (1, .int x1)]) hx hb d_Desk_cancel_29 rfl hl (by decide) rfl (fun ls hl => ?_)
      refine lv_aload_n hx hb d_Desk_cancel_30 rfl (lv_at hl 1 rfl) ?_
      obtain ⟨σ9, q10, hF⟩ := vB1_some hF
      refine ed_cvV (As := []) (rest := []) B hP hD hS hA (C_Desk_lookWhoRuns l D ad ca  σ6 σ9  q10) me_Desk_lookWhoRuns mv_Desk_lookWhoRuns L_Desk_89 (ed_rc_Desk B hP (by decide)) ⟨rfl, rfl⟩ ⟨Nat.le_of_ble_eq_true rfl, Nat.le_of_ble_eq_true rfl⟩ rfl rfl hl.1 (lv_room (Nat.le_of_ble_eq_true rfl)) d_Desk_cancel_31 (fun H locs hP hD hS => ?_)
      refine lv_iload_n hx hb d_Desk_cancel_34 rfl (lv_at hl 0 rfl) ?_
      exact ed_rI B hr hA hP hD hS (vP hF) d_Desk_cancel_35
    · have hF := vIt c5 hF
      refine lv_iconst (v := (-1)) hx hb d_Desk_cancel_22 (by decide) ?_
      exact ed_rI B hr hA hP hD hS (vP hF) d_Desk_cancel_23
  · have hF := vIt c1 hF
    refine lv_bipush (v := (-3)) hx hb d_Desk_cancel_11 (by decide) ?_
    exact ed_rI B hr hA hP hD hS (vP hF) d_Desk_cancel_13
set_option maxHeartbeats 4000000 in
set_option maxRecDepth 100000 in
theorem C_Desk_cancel (l : Launch) (D : va_G) (ad : Nat → Nat) (ca : Nat → ClassId) (x1 : Int32) (σ : ed_S) (r : Int32) (σ' : ed_S) (hF : F_Desk_cancel x1 σ = some (r, σ')) : ed_MI l y_Desk_cancel ws_Desk_cancel rm_Desk_cancel D ca (ed_w ad ca) [.ref (ad (pDesk 0)), .int x1] σ r σ' := by
  refine ed_metI (cc := prog_1_method_14_code) (own := "ExecutiveDesk") (nL := 3) (ret := (some .int)) (by decide) rfl rfl (Nat.le_of_ble_eq_true rfl) ?_
  intro p e s m args below meth c A B hr hA
  exact T_Desk_cancel B hr hA x1 σ  hF
abbrev ws_Desk_abandonMutantsOf : List Cond := Cond.code y_Desk_abandonMutantsOf prog_1_method_57_code 4 none :: ed_tb
abbrev rm_Desk_abandonMutantsOf : Room := { frames := 4, cells := 0, slots := 0, locals := 91 }
def F_Desk_abandonMutantsOf_2 : Nat → Int32 → Int32 → ed_S → Option ed_S
  | 0, _, _, _ => none
  | n + 1, x1, x2, σ => (if 16 ≤ x2 then (some σ) else (vG x2 16 fun j2 => (vB2 (F_Obj_isThere j2 σ) fun r8 σ6 => (if r8 = 0 then ((F_Desk_abandonMutantsOf_2  n) x1 (x2 + 1) σ6) else (if (σ6 22 j2 0) = 2 then (if (σ6 27 j2 0) = x1 then (vL (ed_st σ6 27 j2 0 (-1)) fun σ12 => (vL (ed_st σ12 26 j2 0 0) fun σ14 => (vL (ed_st σ14 28 j2 0 1) fun σ16 => (vB1 (F_Desk_release  σ16) fun σ18 => ((F_Desk_abandonMutantsOf_2  n) x1 (x2 + 1) σ18))))) else ((F_Desk_abandonMutantsOf_2  n) x1 (x2 + 1) σ6)) else ((F_Desk_abandonMutantsOf_2  n) x1 (x2 + 1) σ6))))))
def F_Desk_abandonMutantsOf (x1 : Int32) (σ : ed_S) : Option ed_S := (F_Desk_abandonMutantsOf_2  ed_fu x1 0 σ)
set_option maxHeartbeats 4000000 in
set_option maxRecDepth 100000 in
theorem T_Desk_abandonMutantsOf_2 {σ' : ed_S} (B : ed_B p s m args meth c prog_1_method_57_code "ExecutiveDesk" 4 D ca) (hr : meth.sig.returnType = none) (hA : ∀ q : Nat, s.heap.size ≤ q → A q) : ∀ (n : Nat) (x1 : Int32) (x2 : Int32) (σ : ed_S), F_Desk_abandonMutantsOf_2  n x1 x2 σ = some σ' → ed_G p l e rm_Desk_abandonMutantsOf s m args below meth c D ca (ed_w ad ca) A (ed_QV D ca (ed_w ad ca) A below args s σ') 4 2 [(0, .ref (ad (pDesk 0))), (1, .int x1), (2, .int x2)] [] σ := by
  have hx := B.1
  have hb := B.2.1
  intro n
  induction n with
  | zero => intro x1 x2 σ  hF; exact absurd hF (by intro h; cases h)
  | succ n kk2 =>
    intro x1 x2 σ  hF H locs ls hP hD hS hl
    have hF : (if 16 ≤ x2 then (some σ) else (vG x2 16 fun j2 => (vB2 (F_Obj_isThere j2 σ) fun r8 σ6 => (if r8 = 0 then ((F_Desk_abandonMutantsOf_2  n) x1 (x2 + 1) σ6) else (if (σ6 22 j2 0) = 2 then (if (σ6 27 j2 0) = x1 then (vL (ed_st σ6 27 j2 0 (-1)) fun σ12 => (vL (ed_st σ12 26 j2 0 0) fun σ14 => (vL (ed_st σ14 28 j2 0 1) fun σ16 => (vB1 (F_Desk_release  σ16) fun σ18 => ((F_Desk_abandonMutantsOf_2  n) x1 (x2 + 1) σ18))))) else ((F_Desk_abandonMutantsOf_2  n) x1 (x2 + 1) σ6)) else ((F_Desk_abandonMutantsOf_2  n) x1 (x2 + 1) σ6)))))) = some σ' := hF
    refine lv_iload_n hx hb d_Desk_abandonMutantsOf_2 rfl (lv_at hl 2 rfl) ?_
    refine lv_bipush (v := 16) hx hb d_Desk_abandonMutantsOf_3 (by decide) ?_
    refine lv_icmp_ge (tgt := 63) hx hb d_Desk_abandonMutantsOf_5 (by decide) (fun c1 => ?_) (fun c1 => ?_)
    · have hF := vIt c1 hF
      exact ed_rV B hr hA hP hD hS (Option.some.inj hF) d_Desk_abandonMutantsOf_63
    · have hF := vIf c1 hF
      refine lv_aload_n hx hb d_Desk_abandonMutantsOf_8 rfl (lv_at hl 0 rfl) ?_
      refine gf_Desk_objects B hP (by decide) L_Desk_29 d_Desk_abandonMutantsOf_9 ?_
      refine lv_iload_n hx hb d_Desk_abandonMutantsOf_12 rfl (lv_at hl 2 rfl) ?_
      obtain ⟨j2, ej3, hj4, hn5, hF⟩ := vG_some hF
      refine al_AObj B hP (by decide) hn5 ej3 hj4 d_Desk_abandonMutantsOf_13 ?_
      refine lv_astore_n (lv' := [(3, .ref (ad (pObj j2))), (0, .ref (ad (pDesk 0))), (1, .int x1), (2, .int x2)]) hx hb d_Desk_abandonMutantsOf_14 rfl hl (by decide) rfl (fun ls hl => ?_)
      refine lv_aload_n hx hb d_Desk_abandonMutantsOf_15 rfl (lv_at hl 0 rfl) ?_
      obtain ⟨r8, σ6, q7, hF⟩ := vB2_some hF
      refine ed_cvI (As := []) (rest := []) B hP hD hS hA (C_Obj_isThere l D ad ca j2 σ r8 σ6 hj4 q7) me_Obj_isThere mv_Obj_isThere L_Desk_316 (ed_rc_Obj B hP hj4) ⟨rfl, rfl⟩ ⟨Nat.le_of_ble_eq_true rfl, Nat.le_of_ble_eq_true rfl⟩ rfl rfl hl.1 (lv_room (Nat.le_of_ble_eq_true rfl)) d_Desk_abandonMutantsOf_16 (fun H locs hP hD hS => ?_)
      refine lv_if_eq (tgt := 57) hx hb d_Desk_abandonMutantsOf_19 (by decide) (fun c9 => ?_) (fun c9 => ?_)
      · have hF := vIt c9 hF
        refine lv_iinc (v := (x2 + 1)) (lv' := [(2, .int (x2 + 1)), (3, .ref (ad (pObj j2))), (0, .ref (ad (pDesk 0))), (1, .int x1)]) hx hb d_Desk_abandonMutantsOf_57 hl (k := 3) rfl rfl (by decide) rfl (fun ls hl => ?_)
        refine lv_goto (tgt := 2) hx hb d_Desk_abandonMutantsOf_60 (by decide) ?_
        exact kk2 x1 (x2 + 1) σ6  hF _ _ _ hP hD hS (lv_sub hl [2, 3, 0] rfl)
      · have hF := vIf c9 hF
        refine lv_aload_n hx hb d_Desk_abandonMutantsOf_22 rfl (lv_at hl 0 rfl) ?_
        refine gf_Obj_type B hP hj4 L_Desk_153 d_Desk_abandonMutantsOf_23 ?_
        refine lv_iconst (v := 2) hx hb d_Desk_abandonMutantsOf_26 (by decide) ?_
        refine lv_icmp_ne (tgt := 57) hx hb d_Desk_abandonMutantsOf_27 (by decide) (fun c10 => ?_) (fun c10 => ?_)
        · have hF := vIf c10 hF
          refine lv_iinc (v := (x2 + 1)) (lv' := [(2, .int (x2 + 1)), (3, .ref (ad (pObj j2))), (0, .ref (ad (pDesk 0))), (1, .int x1)]) hx hb d_Desk_abandonMutantsOf_57 hl (k := 3) rfl rfl (by decide) rfl (fun ls hl => ?_)
          refine lv_goto (tgt := 2) hx hb d_Desk_abandonMutantsOf_60 (by decide) ?_
          exact kk2 x1 (x2 + 1) σ6  hF _ _ _ hP hD hS (lv_sub hl [2, 3, 0] rfl)
        · have hF := vIt c10 hF
          refine lv_aload_n hx hb d_Desk_abandonMutantsOf_30 rfl (lv_at hl 0 rfl) ?_
          refine gf_Obj_owner B hP hj4 L_Desk_117 d_Desk_abandonMutantsOf_31 ?_
          refine lv_iload_n hx hb d_Desk_abandonMutantsOf_34 rfl (lv_at hl 2 rfl) ?_
          refine lv_icmp_ne (tgt := 57) hx hb d_Desk_abandonMutantsOf_35 (by decide) (fun c11 => ?_) (fun c11 => ?_)
          · have hF := vIf c11 hF
            refine lv_iinc (v := (x2 + 1)) (lv' := [(2, .int (x2 + 1)), (3, .ref (ad (pObj j2))), (0, .ref (ad (pDesk 0))), (1, .int x1)]) hx hb d_Desk_abandonMutantsOf_57 hl (k := 3) rfl rfl (by decide) rfl (fun ls hl => ?_)
            refine lv_goto (tgt := 2) hx hb d_Desk_abandonMutantsOf_60 (by decide) ?_
            exact kk2 x1 (x2 + 1) σ6  hF _ _ _ hP hD hS (lv_sub hl [2, 3, 0] rfl)
          · have hF := vIt c11 hF
            refine lv_aload_n hx hb d_Desk_abandonMutantsOf_38 rfl (lv_at hl 0 rfl) ?_
            refine lv_iconst (v := (-1)) hx hb d_Desk_abandonMutantsOf_39 (by decide) ?_
            obtain ⟨σ12, e13, hF⟩ := vL_some hF
            refine pf_Obj_owner B hP hD hS hj4 e13 L_Desk_117 d_Desk_abandonMutantsOf_40 (fun H locs hP hD hS => ?_)
            refine lv_aload_n hx hb d_Desk_abandonMutantsOf_43 rfl (lv_at hl 0 rfl) ?_
            refine lv_iconst (v := 0) hx hb d_Desk_abandonMutantsOf_44 (by decide) ?_
            obtain ⟨σ14, e15, hF⟩ := vL_some hF
            refine pf_Obj_value B hP hD hS hj4 e15 L_Desk_273 d_Desk_abandonMutantsOf_45 (fun H locs hP hD hS => ?_)
            refine lv_aload_n hx hb d_Desk_abandonMutantsOf_48 rfl (lv_at hl 0 rfl) ?_
            refine lv_iconst (v := 1) hx hb d_Desk_abandonMutantsOf_49 (by decide) ?_
            obtain ⟨σ16, e17, hF⟩ := vL_some hF
            refine pf_Obj_abandoned B hP hD hS hj4 (by decide) e17 L_Desk_280 d_Desk_abandonMutantsOf_50 (fun H locs hP hD hS => ?_)
            refine lv_aload_n hx hb d_Desk_abandonMutantsOf_53 rfl (lv_at hl 1 rfl) ?_
            obtain ⟨σ18, q19, hF⟩ := vB1_some hF
            refine ed_cvV (As := []) (rest := []) B hP hD hS hA (C_Desk_release l D ad ca  σ16 σ18  q19) me_Desk_release mv_Desk_release L_Desk_343 (ed_rc_Desk B hP (by decide)) ⟨rfl, rfl⟩ ⟨Nat.le_of_ble_eq_true rfl, Nat.le_of_ble_eq_true rfl⟩ rfl rfl hl.1 (lv_room (Nat.le_of_ble_eq_true rfl)) d_Desk_abandonMutantsOf_54 (fun H locs hP hD hS => ?_)
            refine lv_iinc (v := (x2 + 1)) (lv' := [(2, .int (x2 + 1)), (3, .ref (ad (pObj j2))), (0, .ref (ad (pDesk 0))), (1, .int x1)]) hx hb d_Desk_abandonMutantsOf_57 hl (k := 3) rfl rfl (by decide) rfl (fun ls hl => ?_)
            refine lv_goto (tgt := 2) hx hb d_Desk_abandonMutantsOf_60 (by decide) ?_
            exact kk2 x1 (x2 + 1) σ18  hF _ _ _ hP hD hS (lv_sub hl [2, 3, 0] rfl)
set_option maxHeartbeats 4000000 in
set_option maxRecDepth 100000 in
theorem T_Desk_abandonMutantsOf {σ' : ed_S} (B : ed_B p s m args meth c prog_1_method_57_code "ExecutiveDesk" 4 D ca) (hr : meth.sig.returnType = none) (hA : ∀ q : Nat, s.heap.size ≤ q → A q) : ∀ (x1 : Int32) (σ : ed_S), F_Desk_abandonMutantsOf  x1 σ = some σ' → ed_G p l e rm_Desk_abandonMutantsOf s m args below meth c D ca (ed_w ad ca) A (ed_QV D ca (ed_w ad ca) A below args s σ') 4 0 [(0, .ref (ad (pDesk 0))), (1, .int x1)] [] σ := by
  have hx := B.1
  have hb := B.2.1
  intro x1 σ  hF H locs ls hP hD hS hl
  have hF : (F_Desk_abandonMutantsOf_2  ed_fu x1 0 σ) = some σ' := hF
  refine lv_iconst (v := 0) hx hb d_Desk_abandonMutantsOf_0 (by decide) ?_
  refine lv_istore_n (lv' := [(2, .int 0), (0, .ref (ad (pDesk 0))), (1, .int x1)]) hx hb d_Desk_abandonMutantsOf_1 rfl hl (by decide) rfl (fun ls hl => ?_)
  exact T_Desk_abandonMutantsOf_2 B hr hA  ed_fu x1 0 σ  hF _ _ _ hP hD hS (lv_sub hl [1, 2, 0] rfl)
set_option maxHeartbeats 4000000 in
set_option maxRecDepth 100000 in
theorem C_Desk_abandonMutantsOf (l : Launch) (D : va_G) (ad : Nat → Nat) (ca : Nat → ClassId) (x1 : Int32) (σ : ed_S) (σ' : ed_S) (hF : F_Desk_abandonMutantsOf x1 σ = some σ') : ed_MV l y_Desk_abandonMutantsOf ws_Desk_abandonMutantsOf rm_Desk_abandonMutantsOf D ca (ed_w ad ca) [.ref (ad (pDesk 0)), .int x1] σ σ' := by
  refine ed_metV (cc := prog_1_method_57_code) (own := "ExecutiveDesk") (nL := 4) (ret := none) (by decide) rfl rfl (Nat.le_of_ble_eq_true rfl) ?_
  intro p e s m args below meth c A B hr hA
  exact T_Desk_abandonMutantsOf B hr hA x1 σ  hF
abbrev ws_Desk_dropAllHandles : List Cond := Cond.code y_Desk_dropAllHandles prog_1_method_37_code 3 none :: ed_tb
abbrev rm_Desk_dropAllHandles : Room := { frames := 2, cells := 0, slots := 0, locals := 43 }
def F_Desk_dropAllHandles_2 : Nat → Nat → Int32 → ed_S → Option ed_S
  | 0, _, _, _ => none
  | n + 1, i1, x2, σ => (if 8 ≤ x2 then (some σ) else (vB2 (F_Proc_objectOf i1 x2 σ) fun r4 σ2 => (if r4 = (-1) then ((F_Desk_dropAllHandles_2  n) i1 (x2 + 1) σ2) else (vB1 (F_Desk_dropHandle i1 x2 σ2) fun σ6 => ((F_Desk_dropAllHandles_2  n) i1 (x2 + 1) σ6)))))
def F_Desk_dropAllHandles (i1 : Nat) (σ : ed_S) : Option ed_S := (F_Desk_dropAllHandles_2  ed_fu i1 0 σ)
set_option maxHeartbeats 4000000 in
set_option maxRecDepth 100000 in
theorem T_Desk_dropAllHandles_2 {σ' : ed_S} (B : ed_B p s m args meth c prog_1_method_37_code "ExecutiveDesk" 3 D ca) (hr : meth.sig.returnType = none) (hA : ∀ q : Nat, s.heap.size ≤ q → A q) : ∀ (n : Nat) (i1 : Nat) (x2 : Int32) (σ : ed_S), i1 < 4 → F_Desk_dropAllHandles_2  n i1 x2 σ = some σ' → ed_G p l e rm_Desk_dropAllHandles s m args below meth c D ca (ed_w ad ca) A (ed_QV D ca (ed_w ad ca) A below args s σ') 3 2 [(0, .ref (ad (pDesk 0))), (1, .ref (ad (pProc i1))), (2, .int x2)] [] σ := by
  have hx := B.1
  have hb := B.2.1
  intro n
  induction n with
  | zero => intro i1 x2 σ h1 hF; exact absurd hF (by intro h; cases h)
  | succ n kk2 =>
    intro i1 x2 σ h1 hF H locs ls hP hD hS hl
    have hF : (if 8 ≤ x2 then (some σ) else (vB2 (F_Proc_objectOf i1 x2 σ) fun r4 σ2 => (if r4 = (-1) then ((F_Desk_dropAllHandles_2  n) i1 (x2 + 1) σ2) else (vB1 (F_Desk_dropHandle i1 x2 σ2) fun σ6 => ((F_Desk_dropAllHandles_2  n) i1 (x2 + 1) σ6))))) = some σ' := hF
    refine lv_iload_n hx hb d_Desk_dropAllHandles_2 rfl (lv_at hl 2 rfl) ?_
    refine lv_bipush (v := 8) hx hb d_Desk_dropAllHandles_3 (by decide) ?_
    refine lv_icmp_ge (tgt := 29) hx hb d_Desk_dropAllHandles_5 (by decide) (fun c1 => ?_) (fun c1 => ?_)
    · have hF := vIt c1 hF
      exact ed_rV B hr hA hP hD hS (Option.some.inj hF) d_Desk_dropAllHandles_29
    · have hF := vIf c1 hF
      refine lv_aload_n hx hb d_Desk_dropAllHandles_8 rfl (lv_at hl 1 rfl) ?_
      refine lv_iload_n hx hb d_Desk_dropAllHandles_9 rfl (lv_at hl 2 rfl) ?_
      obtain ⟨r4, σ2, q3, hF⟩ := vB2_some hF
      refine ed_cvI (As := [.int x2]) (rest := []) B hP hD hS hA (C_Proc_objectOf l D ad ca i1 x2 σ r4 σ2 h1 q3) me_Proc_objectOf mv_Proc_objectOf L_Desk_134 (ed_rc_Proc B hP h1) ⟨rfl, rfl⟩ ⟨Nat.le_of_ble_eq_true rfl, Nat.le_of_ble_eq_true rfl⟩ rfl rfl hl.1 (lv_room (Nat.le_of_ble_eq_true rfl)) d_Desk_dropAllHandles_10 (fun H locs hP hD hS => ?_)
      refine lv_iconst (v := (-1)) hx hb d_Desk_dropAllHandles_13 (by decide) ?_
      refine lv_icmp_eq (tgt := 23) hx hb d_Desk_dropAllHandles_14 (by decide) (fun c5 => ?_) (fun c5 => ?_)
      · have hF := vIt c5 hF
        refine lv_iinc (v := (x2 + 1)) (lv' := [(2, .int (x2 + 1)), (0, .ref (ad (pDesk 0))), (1, .ref (ad (pProc i1)))]) hx hb d_Desk_dropAllHandles_23 hl (k := 2) rfl rfl (by decide) rfl (fun ls hl => ?_)
        refine lv_goto (tgt := 2) hx hb d_Desk_dropAllHandles_26 (by decide) ?_
        exact kk2 i1 (x2 + 1) σ2 h1 hF _ _ _ hP hD hS (lv_sub hl [1, 2, 0] rfl)
      · have hF := vIf c5 hF
        refine lv_aload_n hx hb d_Desk_dropAllHandles_17 rfl (lv_at hl 0 rfl) ?_
        refine lv_aload_n hx hb d_Desk_dropAllHandles_18 rfl (lv_at hl 1 rfl) ?_
        refine lv_iload_n hx hb d_Desk_dropAllHandles_19 rfl (lv_at hl 2 rfl) ?_
        obtain ⟨σ6, q7, hF⟩ := vB1_some hF
        refine ed_cvV (As := [.ref (ad (pProc i1)), .int x2]) (rest := []) B hP hD hS hA (C_Desk_dropHandle l D ad ca i1 x2 σ2 σ6 h1 q7) me_Desk_dropHandle mv_Desk_dropHandle L_Desk_137 (ed_rc_Desk B hP (by decide)) ⟨rfl, rfl⟩ ⟨Nat.le_of_ble_eq_true rfl, Nat.le_of_ble_eq_true rfl⟩ rfl rfl hl.1 (lv_room (Nat.le_of_ble_eq_true rfl)) d_Desk_dropAllHandles_20 (fun H locs hP hD hS => ?_)
        refine lv_iinc (v := (x2 + 1)) (lv' := [(2, .int (x2 + 1)), (0, .ref (ad (pDesk 0))), (1, .ref (ad (pProc i1)))]) hx hb d_Desk_dropAllHandles_23 hl (k := 2) rfl rfl (by decide) rfl (fun ls hl => ?_)
        refine lv_goto (tgt := 2) hx hb d_Desk_dropAllHandles_26 (by decide) ?_
        exact kk2 i1 (x2 + 1) σ6 h1 hF _ _ _ hP hD hS (lv_sub hl [1, 2, 0] rfl)
set_option maxHeartbeats 4000000 in
set_option maxRecDepth 100000 in
theorem T_Desk_dropAllHandles {σ' : ed_S} (B : ed_B p s m args meth c prog_1_method_37_code "ExecutiveDesk" 3 D ca) (hr : meth.sig.returnType = none) (hA : ∀ q : Nat, s.heap.size ≤ q → A q) : ∀ (i1 : Nat) (σ : ed_S), i1 < 4 → F_Desk_dropAllHandles  i1 σ = some σ' → ed_G p l e rm_Desk_dropAllHandles s m args below meth c D ca (ed_w ad ca) A (ed_QV D ca (ed_w ad ca) A below args s σ') 3 0 [(0, .ref (ad (pDesk 0))), (1, .ref (ad (pProc i1)))] [] σ := by
  have hx := B.1
  have hb := B.2.1
  intro i1 σ h1 hF H locs ls hP hD hS hl
  have hF : (F_Desk_dropAllHandles_2  ed_fu i1 0 σ) = some σ' := hF
  refine lv_iconst (v := 0) hx hb d_Desk_dropAllHandles_0 (by decide) ?_
  refine lv_istore_n (lv' := [(2, .int 0), (0, .ref (ad (pDesk 0))), (1, .ref (ad (pProc i1)))]) hx hb d_Desk_dropAllHandles_1 rfl hl (by decide) rfl (fun ls hl => ?_)
  exact T_Desk_dropAllHandles_2 B hr hA  ed_fu i1 0 σ h1 hF _ _ _ hP hD hS (lv_sub hl [1, 2, 0] rfl)
set_option maxHeartbeats 4000000 in
set_option maxRecDepth 100000 in
theorem C_Desk_dropAllHandles (l : Launch) (D : va_G) (ad : Nat → Nat) (ca : Nat → ClassId) (i1 : Nat) (σ : ed_S) (σ' : ed_S) (h1 : i1 < 4) (hF : F_Desk_dropAllHandles i1 σ = some σ') : ed_MV l y_Desk_dropAllHandles ws_Desk_dropAllHandles rm_Desk_dropAllHandles D ca (ed_w ad ca) [.ref (ad (pDesk 0)), .ref (ad (pProc i1))] σ σ' := by
  refine ed_metV (cc := prog_1_method_37_code) (own := "ExecutiveDesk") (nL := 3) (ret := none) (by decide) rfl rfl (Nat.le_of_ble_eq_true rfl) ?_
  intro p e s m args below meth c A B hr hA
  exact T_Desk_dropAllHandles B hr hA i1 σ h1 hF
abbrev ws_Desk_exit : List Cond := Cond.code y_Desk_exit prog_1_method_15_code 3 (some .int) :: ed_tb
abbrev rm_Desk_exit : Room := { frames := 6, cells := 0, slots := 0, locals := 136 }
def F_Desk_exit_58 : Nat → Int32 → Int32 → ed_S → Option (Int32 × ed_S)
  | 0, _, _, _ => none
  | n + 1, x1, x2, σ => (if 8 ≤ x2 then (vG x1 8 fun j2 => (vL (ed_st σ 18 j2 0 0) fun σ6 => (vG x1 8 fun j8 => (vG (σ6 8 j8 0) 4 fun j12 => (vL (ed_st σ6 21 j12 0 ((σ6 21 j12 0) - 1)) fun σ16 => (vB2 (F_Proc_hasEnded j12 σ16) fun r20 σ18 => (if r20 = 0 then (vB1 (F_Desk_lookWhoRuns  σ18) fun σ22 => (some (x1, σ22))) else (vB1 (F_Desk_dropAllHandles j12 σ18) fun σ24 => (vB1 (F_Desk_lookWhoRuns  σ24) fun σ26 => (some (x1, σ26))))))))))) else (vB2 (F_Desk_isPending x2 σ) fun r30 σ28 => (if r30 = 0 then ((F_Desk_exit_58  n) x1 (x2 + 1) σ28) else (vG x2 8 fun j32 => (if (σ28 33 j32 0) = x1 then (vB2 (F_Desk_withdraw x2 σ28) fun r39 σ37 => ((F_Desk_exit_58  n) x1 (x2 + 1) σ37)) else ((F_Desk_exit_58  n) x1 (x2 + 1) σ28))))))
def F_Desk_exit (σ : ed_S) : Option (Int32 × ed_S) := (if (σ 5 0 0) = (-1) then (some ((-3), σ)) else (if (σ 4 0 0) = 1 then (some ((-4), σ)) else (vL (ed_st σ 5 0 0 (-1)) fun σ3 => (vG (σ 5 0 0) 8 fun j5 => (vL (ed_st σ3 10 j5 0 3) fun σ9 => (vB1 (F_Desk_abandonMutantsOf (σ 5 0 0) σ9) fun σ11 => (F_Desk_exit_58  ed_fu (σ 5 0 0) 0 σ11)))))))
set_option maxHeartbeats 4000000 in
set_option maxRecDepth 100000 in
theorem T_Desk_exit_58 {r : Int32} {σ' : ed_S} (B : ed_B p s m args meth c prog_1_method_15_code "ExecutiveDesk" 3 D ca) (hr : meth.sig.returnType = (some .int)) (hA : ∀ q : Nat, s.heap.size ≤ q → A q) : ∀ (n : Nat) (x1 : Int32) (x2 : Int32) (σ : ed_S), F_Desk_exit_58  n x1 x2 σ = some (r, σ') → ed_G p l e rm_Desk_exit s m args below meth c D ca (ed_w ad ca) A (ed_QI D ca (ed_w ad ca) A below args s r σ') 3 58 [(0, .ref (ad (pDesk 0))), (1, .int x1), (2, .int x2)] [] σ := by
  have hx := B.1
  have hb := B.2.1
  intro n
  induction n with
  | zero => intro x1 x2 σ  hF; exact absurd hF (by intro h; cases h)
  | succ n kk58 =>
    intro x1 x2 σ  hF H locs ls hP hD hS hl
    have hF : (if 8 ≤ x2 then (vG x1 8 fun j2 => (vL (ed_st σ 18 j2 0 0) fun σ6 => (vG x1 8 fun j8 => (vG (σ6 8 j8 0) 4 fun j12 => (vL (ed_st σ6 21 j12 0 ((σ6 21 j12 0) - 1)) fun σ16 => (vB2 (F_Proc_hasEnded j12 σ16) fun r20 σ18 => (if r20 = 0 then (vB1 (F_Desk_lookWhoRuns  σ18) fun σ22 => (some (x1, σ22))) else (vB1 (F_Desk_dropAllHandles j12 σ18) fun σ24 => (vB1 (F_Desk_lookWhoRuns  σ24) fun σ26 => (some (x1, σ26))))))))))) else (vB2 (F_Desk_isPending x2 σ) fun r30 σ28 => (if r30 = 0 then ((F_Desk_exit_58  n) x1 (x2 + 1) σ28) else (vG x2 8 fun j32 => (if (σ28 33 j32 0) = x1 then (vB2 (F_Desk_withdraw x2 σ28) fun r39 σ37 => ((F_Desk_exit_58  n) x1 (x2 + 1) σ37)) else ((F_Desk_exit_58  n) x1 (x2 + 1) σ28)))))) = some (r, σ') := hF
    refine lv_iload_n hx hb d_Desk_exit_58 rfl (lv_at hl 2 rfl) ?_
    refine lv_bipush (v := 8) hx hb d_Desk_exit_59 (by decide) ?_
    refine lv_icmp_ge (tgt := 97) hx hb d_Desk_exit_61 (by decide) (fun c1 => ?_) (fun c1 => ?_)
    · have hF := vIt c1 hF
      refine lv_aload_n hx hb d_Desk_exit_97 rfl (lv_at hl 0 rfl) ?_
      refine gf_Desk_threads B hP (by decide) L_Desk_26 d_Desk_exit_98 ?_
      refine lv_iload_n hx hb d_Desk_exit_101 rfl (lv_at hl 1 rfl) ?_
      obtain ⟨j2, ej3, hj4, hn5, hF⟩ := vG_some hF
      refine al_AThr B hP (by decide) hn5 ej3 hj4 d_Desk_exit_102 ?_
      refine gf_Thr_calls B hP hj4 L_Desk_178 d_Desk_exit_103 ?_
      refine lv_iconst (v := 0) hx hb d_Desk_exit_106 (by decide) ?_
      obtain ⟨σ6, e7, hF⟩ := vL_some hF
      refine pf_Row_size B hP hD hS (ed_b0 hj4) e7 L_Desk_181 d_Desk_exit_107 (fun H locs hP hD hS => ?_)
      refine lv_aload_n hx hb d_Desk_exit_110 rfl (lv_at hl 0 rfl) ?_
      refine gf_Desk_processes B hP (by decide) L_Desk_11 d_Desk_exit_111 ?_
      refine lv_aload_n hx hb d_Desk_exit_114 rfl (lv_at hl 0 rfl) ?_
      refine gf_Desk_threads B hP (by decide) L_Desk_26 d_Desk_exit_115 ?_
      refine lv_iload_n hx hb d_Desk_exit_118 rfl (lv_at hl 1 rfl) ?_
      obtain ⟨j8, ej9, hj10, hn11, hF⟩ := vG_some hF
      refine al_AThr B hP (by decide) hn11 ej9 hj10 d_Desk_exit_119 ?_
      refine gf_Thr_process B hP hj10 L_Desk_78 d_Desk_exit_120 ?_
      obtain ⟨j12, ej13, hj14, hn15, hF⟩ := vG_some hF
      refine al_AProc B hP (by decide) hn15 ej13 hj14 d_Desk_exit_123 ?_
      refine lv_astore_n (lv' := [(2, .ref (ad (pProc j12))), (0, .ref (ad (pDesk 0))), (1, .int x1)]) hx hb d_Desk_exit_124 rfl hl (by decide) rfl (fun ls hl => ?_)
      refine lv_aload_n hx hb d_Desk_exit_125 rfl (lv_at hl 0 rfl) ?_
      refine lv_dup hx hb d_Desk_exit_126 rfl ?_
      refine gf_Proc_threadsAlive B hP hj14 L_Desk_75 d_Desk_exit_127 ?_
      refine lv_iconst (v := 1) hx hb d_Desk_exit_130 (by decide) ?_
      refine lv_isub hx hb d_Desk_exit_131 ?_
      obtain ⟨σ16, e17, hF⟩ := vL_some hF
      refine pf_Proc_threadsAlive B hP hD hS hj14 e17 L_Desk_75 d_Desk_exit_132 (fun H locs hP hD hS => ?_)
      refine lv_aload_n hx hb d_Desk_exit_135 rfl (lv_at hl 0 rfl) ?_
      obtain ⟨r20, σ18, q19, hF⟩ := vB2_some hF
      refine ed_cvI (As := []) (rest := []) B hP hD hS hA (C_Proc_hasEnded l D ad ca j12 σ16 r20 σ18 hj14 q19) me_Proc_hasEnded mv_Proc_hasEnded L_Desk_65 (ed_rc_Proc B hP hj14) ⟨rfl, rfl⟩ ⟨Nat.le_of_ble_eq_true rfl, Nat.le_of_ble_eq_true rfl⟩ rfl rfl hl.1 (lv_room (Nat.le_of_ble_eq_true rfl)) d_Desk_exit_136 (fun H locs hP hD hS => ?_)
      refine lv_if_eq (tgt := 147) hx hb d_Desk_exit_139 (by decide) (fun c21 => ?_) (fun c21 => ?_)
      · have hF := vIt c21 hF
        refine lv_aload_n hx hb d_Desk_exit_147 rfl (lv_at hl 1 rfl) ?_
        obtain ⟨σ22, q23, hF⟩ := vB1_some hF
        refine ed_cvV (As := []) (rest := []) B hP hD hS hA (C_Desk_lookWhoRuns l D ad ca  σ18 σ22  q23) me_Desk_lookWhoRuns mv_Desk_lookWhoRuns L_Desk_89 (ed_rc_Desk B hP (by decide)) ⟨rfl, rfl⟩ ⟨Nat.le_of_ble_eq_true rfl, Nat.le_of_ble_eq_true rfl⟩ rfl rfl hl.1 (lv_room (Nat.le_of_ble_eq_true rfl)) d_Desk_exit_148 (fun H locs hP hD hS => ?_)
        refine lv_iload_n hx hb d_Desk_exit_151 rfl (lv_at hl 2 rfl) ?_
        exact ed_rI B hr hA hP hD hS (vP hF) d_Desk_exit_152
      · have hF := vIf c21 hF
        refine lv_aload_n hx hb d_Desk_exit_142 rfl (lv_at hl 1 rfl) ?_
        refine lv_aload_n hx hb d_Desk_exit_143 rfl (lv_at hl 0 rfl) ?_
        obtain ⟨σ24, q25, hF⟩ := vB1_some hF
        refine ed_cvV (As := [.ref (ad (pProc j12))]) (rest := []) B hP hD hS hA (C_Desk_dropAllHandles l D ad ca j12 σ18 σ24 hj14 q25) me_Desk_dropAllHandles mv_Desk_dropAllHandles L_Desk_242 (ed_rc_Desk B hP (by decide)) ⟨rfl, rfl⟩ ⟨Nat.le_of_ble_eq_true rfl, Nat.le_of_ble_eq_true rfl⟩ rfl rfl hl.1 (lv_room (Nat.le_of_ble_eq_true rfl)) d_Desk_exit_144 (fun H locs hP hD hS => ?_)
        refine lv_aload_n hx hb d_Desk_exit_147 rfl (lv_at hl 1 rfl) ?_
        obtain ⟨σ26, q27, hF⟩ := vB1_some hF
        refine ed_cvV (As := []) (rest := []) B hP hD hS hA (C_Desk_lookWhoRuns l D ad ca  σ24 σ26  q27) me_Desk_lookWhoRuns mv_Desk_lookWhoRuns L_Desk_89 (ed_rc_Desk B hP (by decide)) ⟨rfl, rfl⟩ ⟨Nat.le_of_ble_eq_true rfl, Nat.le_of_ble_eq_true rfl⟩ rfl rfl hl.1 (lv_room (Nat.le_of_ble_eq_true rfl)) d_Desk_exit_148 (fun H locs hP hD hS => ?_)
        refine lv_iload_n hx hb d_Desk_exit_151 rfl (lv_at hl 2 rfl) ?_
        exact ed_rI B hr hA hP hD hS (vP hF) d_Desk_exit_152
    · have hF := vIf c1 hF
      refine lv_aload_n hx hb d_Desk_exit_64 rfl (lv_at hl 0 rfl) ?_
      refine lv_iload_n hx hb d_Desk_exit_65 rfl (lv_at hl 2 rfl) ?_
      obtain ⟨r30, σ28, q29, hF⟩ := vB2_some hF
      refine ed_cvI (As := [.int x2]) (rest := []) B hP hD hS hA (C_Desk_isPending l D ad ca x2 σ r30 σ28  q29) me_Desk_isPending mv_Desk_isPending L_Desk_230 (ed_rc_Desk B hP (by decide)) ⟨rfl, rfl⟩ ⟨Nat.le_of_ble_eq_true rfl, Nat.le_of_ble_eq_true rfl⟩ rfl rfl hl.1 (lv_room (Nat.le_of_ble_eq_true rfl)) d_Desk_exit_66 (fun H locs hP hD hS => ?_)
      refine lv_if_eq (tgt := 91) hx hb d_Desk_exit_69 (by decide) (fun c31 => ?_) (fun c31 => ?_)
      · have hF := vIt c31 hF
        refine lv_iinc (v := (x2 + 1)) (lv' := [(2, .int (x2 + 1)), (0, .ref (ad (pDesk 0))), (1, .int x1)]) hx hb d_Desk_exit_91 hl (k := 2) rfl rfl (by decide) rfl (fun ls hl => ?_)
        refine lv_goto (tgt := 58) hx hb d_Desk_exit_94 (by decide) ?_
        exact kk58 x1 (x2 + 1) σ28  hF _ _ _ hP hD hS (lv_sub hl [1, 2, 0] rfl)
      · have hF := vIf c31 hF
        refine lv_aload_n hx hb d_Desk_exit_72 rfl (lv_at hl 0 rfl) ?_
        refine gf_Desk_transfers B hP (by decide) L_Desk_35 d_Desk_exit_73 ?_
        refine lv_iload_n hx hb d_Desk_exit_76 rfl (lv_at hl 2 rfl) ?_
        obtain ⟨j32, ej33, hj34, hn35, hF⟩ := vG_some hF
        refine al_ATra B hP (by decide) hn35 ej33 hj34 d_Desk_exit_77 ?_
        refine gf_Tra_thread B hP hj34 L_Desk_239 d_Desk_exit_78 ?_
        refine lv_iload_n hx hb d_Desk_exit_81 rfl (lv_at hl 1 rfl) ?_
        refine lv_icmp_ne (tgt := 91) hx hb d_Desk_exit_82 (by decide) (fun c36 => ?_) (fun c36 => ?_)
        · have hF := vIf c36 hF
          refine lv_iinc (v := (x2 + 1)) (lv' := [(2, .int (x2 + 1)), (0, .ref (ad (pDesk 0))), (1, .int x1)]) hx hb d_Desk_exit_91 hl (k := 2) rfl rfl (by decide) rfl (fun ls hl => ?_)
          refine lv_goto (tgt := 58) hx hb d_Desk_exit_94 (by decide) ?_
          exact kk58 x1 (x2 + 1) σ28  hF _ _ _ hP hD hS (lv_sub hl [1, 2, 0] rfl)
        · have hF := vIt c36 hF
          refine lv_aload_n hx hb d_Desk_exit_85 rfl (lv_at hl 0 rfl) ?_
          refine lv_iload_n hx hb d_Desk_exit_86 rfl (lv_at hl 2 rfl) ?_
          obtain ⟨r39, σ37, q38, hF⟩ := vB2_some hF
          refine ed_cvI (As := [.int x2]) (rest := []) B hP hD hS hA (C_Desk_withdraw l D ad ca x2 σ28 r39 σ37  q38) me_Desk_withdraw mv_Desk_withdraw L_Desk_233 (ed_rc_Desk B hP (by decide)) ⟨rfl, rfl⟩ ⟨Nat.le_of_ble_eq_true rfl, Nat.le_of_ble_eq_true rfl⟩ rfl rfl hl.1 (lv_room (Nat.le_of_ble_eq_true rfl)) d_Desk_exit_87 (fun H locs hP hD hS => ?_)
          refine lv_pop hx hb d_Desk_exit_90 rfl ?_
          refine lv_iinc (v := (x2 + 1)) (lv' := [(2, .int (x2 + 1)), (0, .ref (ad (pDesk 0))), (1, .int x1)]) hx hb d_Desk_exit_91 hl (k := 2) rfl rfl (by decide) rfl (fun ls hl => ?_)
          refine lv_goto (tgt := 58) hx hb d_Desk_exit_94 (by decide) ?_
          exact kk58 x1 (x2 + 1) σ37  hF _ _ _ hP hD hS (lv_sub hl [1, 2, 0] rfl)
set_option maxHeartbeats 4000000 in
set_option maxRecDepth 100000 in
theorem T_Desk_exit {r : Int32} {σ' : ed_S} (B : ed_B p s m args meth c prog_1_method_15_code "ExecutiveDesk" 3 D ca) (hr : meth.sig.returnType = (some .int)) (hA : ∀ q : Nat, s.heap.size ≤ q → A q) : ∀ (σ : ed_S), F_Desk_exit   σ = some (r, σ') → ed_G p l e rm_Desk_exit s m args below meth c D ca (ed_w ad ca) A (ed_QI D ca (ed_w ad ca) A below args s r σ') 3 0 [(0, .ref (ad (pDesk 0)))] [] σ := by
  have hx := B.1
  have hb := B.2.1
  intro  σ  hF H locs ls hP hD hS hl
  have hF : (if (σ 5 0 0) = (-1) then (some ((-3), σ)) else (if (σ 4 0 0) = 1 then (some ((-4), σ)) else (vL (ed_st σ 5 0 0 (-1)) fun σ3 => (vG (σ 5 0 0) 8 fun j5 => (vL (ed_st σ3 10 j5 0 3) fun σ9 => (vB1 (F_Desk_abandonMutantsOf (σ 5 0 0) σ9) fun σ11 => (F_Desk_exit_58  ed_fu (σ 5 0 0) 0 σ11))))))) = some (r, σ') := hF
  refine lv_aload_n hx hb d_Desk_exit_0 rfl (lv_at hl 0 rfl) ?_
  refine gf_Desk_scheduler B hP (by decide) L_Desk_18 d_Desk_exit_1 ?_
  refine gf_Sched_running B hP (by decide) L_Desk_92 d_Desk_exit_4 ?_
  refine lv_iconst (v := (-1)) hx hb d_Desk_exit_7 (by decide) ?_
  refine lv_icmp_ne (tgt := 14) hx hb d_Desk_exit_8 (by decide) (fun c1 => ?_) (fun c1 => ?_)
  · have hF := vIf c1 hF
    refine lv_aload_n hx hb d_Desk_exit_14 rfl (lv_at hl 0 rfl) ?_
    refine gf_Desk_currentLevel B hP (by decide) L_Desk_163 d_Desk_exit_15 ?_
    refine lv_iconst (v := 1) hx hb d_Desk_exit_18 (by decide) ?_
    refine lv_icmp_ne (tgt := 25) hx hb d_Desk_exit_19 (by decide) (fun c2 => ?_) (fun c2 => ?_)
    · have hF := vIf c2 hF
      refine lv_aload_n hx hb d_Desk_exit_25 rfl (lv_at hl 0 rfl) ?_
      refine gf_Desk_scheduler B hP (by decide) L_Desk_18 d_Desk_exit_26 ?_
      refine gf_Sched_running B hP (by decide) L_Desk_92 d_Desk_exit_29 ?_
      refine lv_istore_n (lv' := [(1, .int (σ 5 0 0)), (0, .ref (ad (pDesk 0)))]) hx hb d_Desk_exit_32 rfl hl (by decide) rfl (fun ls hl => ?_)
      refine lv_aload_n hx hb d_Desk_exit_33 rfl (lv_at hl 1 rfl) ?_
      refine gf_Desk_scheduler B hP (by decide) L_Desk_18 d_Desk_exit_34 ?_
      refine lv_iconst (v := (-1)) hx hb d_Desk_exit_37 (by decide) ?_
      obtain ⟨σ3, e4, hF⟩ := vL_some hF
      refine pf_Sched_running B hP hD hS (by decide) e4 L_Desk_92 d_Desk_exit_38 (fun H locs hP hD hS => ?_)
      refine lv_aload_n hx hb d_Desk_exit_41 rfl (lv_at hl 1 rfl) ?_
      refine gf_Desk_threads B hP (by decide) L_Desk_26 d_Desk_exit_42 ?_
      refine lv_iload_n hx hb d_Desk_exit_45 rfl (lv_at hl 0 rfl) ?_
      obtain ⟨j5, ej6, hj7, hn8, hF⟩ := vG_some hF
      refine al_AThr B hP (by decide) hn8 ej6 hj7 d_Desk_exit_46 ?_
      refine lv_iconst (v := 3) hx hb d_Desk_exit_47 (by decide) ?_
      obtain ⟨σ9, e10, hF⟩ := vL_some hF
      refine pf_Thr_state B hP hD hS hj7 e10 L_Desk_192 d_Desk_exit_48 (fun H locs hP hD hS => ?_)
      refine lv_aload_n hx hb d_Desk_exit_51 rfl (lv_at hl 1 rfl) ?_
      refine lv_iload_n hx hb d_Desk_exit_52 rfl (lv_at hl 0 rfl) ?_
      obtain ⟨σ11, q12, hF⟩ := vB1_some hF
      refine ed_cvV (As := [.int (σ 5 0 0)]) (rest := []) B hP hD hS hA (C_Desk_abandonMutantsOf l D ad ca (σ 5 0 0) σ9 σ11  q12) me_Desk_abandonMutantsOf mv_Desk_abandonMutantsOf L_Desk_236 (ed_rc_Desk B hP (by decide)) ⟨rfl, rfl⟩ ⟨Nat.le_of_ble_eq_true rfl, Nat.le_of_ble_eq_true rfl⟩ rfl rfl hl.1 (lv_room (Nat.le_of_ble_eq_true rfl)) d_Desk_exit_53 (fun H locs hP hD hS => ?_)
      refine lv_iconst (v := 0) hx hb d_Desk_exit_56 (by decide) ?_
      refine lv_istore_n (lv' := [(2, .int 0), (1, .int (σ 5 0 0)), (0, .ref (ad (pDesk 0)))]) hx hb d_Desk_exit_57 rfl hl (by decide) rfl (fun ls hl => ?_)
      exact T_Desk_exit_58 B hr hA  ed_fu (σ 5 0 0) 0 σ11  hF _ _ _ hP hD hS (lv_sub hl [2, 1, 0] rfl)
    · have hF := vIt c2 hF
      refine lv_bipush (v := (-4)) hx hb d_Desk_exit_22 (by decide) ?_
      exact ed_rI B hr hA hP hD hS (vP hF) d_Desk_exit_24
  · have hF := vIt c1 hF
    refine lv_bipush (v := (-3)) hx hb d_Desk_exit_11 (by decide) ?_
    exact ed_rI B hr hA hP hD hS (vP hF) d_Desk_exit_13
set_option maxHeartbeats 4000000 in
set_option maxRecDepth 100000 in
theorem C_Desk_exit (l : Launch) (D : va_G) (ad : Nat → Nat) (ca : Nat → ClassId) (σ : ed_S) (r : Int32) (σ' : ed_S) (hF : F_Desk_exit  σ = some (r, σ')) : ed_MI l y_Desk_exit ws_Desk_exit rm_Desk_exit D ca (ed_w ad ca) [.ref (ad (pDesk 0))] σ r σ' := by
  refine ed_metI (cc := prog_1_method_15_code) (own := "ExecutiveDesk") (nL := 3) (ret := (some .int)) (by decide) rfl rfl (Nat.le_of_ble_eq_true rfl) ?_
  intro p e s m args below meth c A B hr hA
  exact T_Desk_exit B hr hA  σ  hF
abbrev ws_Desk_signalTimersDue : List Cond := Cond.code y_Desk_signalTimersDue prog_1_method_59_code 3 none :: ed_tb
abbrev rm_Desk_signalTimersDue : Room := { frames := 4, cells := 0, slots := 0, locals := 91 }
def F_Desk_signalTimersDue_2 : Nat → Int32 → ed_S → Option ed_S
  | 0, _, _ => none
  | n + 1, x1, σ => (if 16 ≤ x1 then (some σ) else (vG x1 16 fun j2 => (vB2 (F_Obj_isThere j2 σ) fun r8 σ6 => (if r8 = 0 then ((F_Desk_signalTimersDue_2  n) (x1 + 1) σ6) else (if (σ6 22 j2 0) = 4 then (if (σ6 29 j2 0) = (σ6 3 0 0) then (vL (ed_st σ6 29 j2 0 (-1)) fun σ12 => (vL (ed_st σ12 26 j2 0 1) fun σ14 => (vB1 (F_Desk_release  σ14) fun σ16 => ((F_Desk_signalTimersDue_2  n) (x1 + 1) σ16)))) else ((F_Desk_signalTimersDue_2  n) (x1 + 1) σ6)) else ((F_Desk_signalTimersDue_2  n) (x1 + 1) σ6))))))
def F_Desk_signalTimersDue (σ : ed_S) : Option ed_S := (F_Desk_signalTimersDue_2  ed_fu 0 σ)
set_option maxHeartbeats 4000000 in
set_option maxRecDepth 100000 in
theorem T_Desk_signalTimersDue_2 {σ' : ed_S} (B : ed_B p s m args meth c prog_1_method_59_code "ExecutiveDesk" 3 D ca) (hr : meth.sig.returnType = none) (hA : ∀ q : Nat, s.heap.size ≤ q → A q) : ∀ (n : Nat) (x1 : Int32) (σ : ed_S), F_Desk_signalTimersDue_2  n x1 σ = some σ' → ed_G p l e rm_Desk_signalTimersDue s m args below meth c D ca (ed_w ad ca) A (ed_QV D ca (ed_w ad ca) A below args s σ') 3 2 [(0, .ref (ad (pDesk 0))), (1, .int x1)] [] σ := by
  have hx := B.1
  have hb := B.2.1
  intro n
  induction n with
  | zero => intro x1 σ  hF; exact absurd hF (by intro h; cases h)
  | succ n kk2 =>
    intro x1 σ  hF H locs ls hP hD hS hl
    have hF : (if 16 ≤ x1 then (some σ) else (vG x1 16 fun j2 => (vB2 (F_Obj_isThere j2 σ) fun r8 σ6 => (if r8 = 0 then ((F_Desk_signalTimersDue_2  n) (x1 + 1) σ6) else (if (σ6 22 j2 0) = 4 then (if (σ6 29 j2 0) = (σ6 3 0 0) then (vL (ed_st σ6 29 j2 0 (-1)) fun σ12 => (vL (ed_st σ12 26 j2 0 1) fun σ14 => (vB1 (F_Desk_release  σ14) fun σ16 => ((F_Desk_signalTimersDue_2  n) (x1 + 1) σ16)))) else ((F_Desk_signalTimersDue_2  n) (x1 + 1) σ6)) else ((F_Desk_signalTimersDue_2  n) (x1 + 1) σ6)))))) = some σ' := hF
    refine lv_iload_n hx hb d_Desk_signalTimersDue_2 rfl (lv_at hl 1 rfl) ?_
    refine lv_bipush (v := 16) hx hb d_Desk_signalTimersDue_3 (by decide) ?_
    refine lv_icmp_ge (tgt := 61) hx hb d_Desk_signalTimersDue_5 (by decide) (fun c1 => ?_) (fun c1 => ?_)
    · have hF := vIt c1 hF
      exact ed_rV B hr hA hP hD hS (Option.some.inj hF) d_Desk_signalTimersDue_61
    · have hF := vIf c1 hF
      refine lv_aload_n hx hb d_Desk_signalTimersDue_8 rfl (lv_at hl 0 rfl) ?_
      refine gf_Desk_objects B hP (by decide) L_Desk_29 d_Desk_signalTimersDue_9 ?_
      refine lv_iload_n hx hb d_Desk_signalTimersDue_12 rfl (lv_at hl 1 rfl) ?_
      obtain ⟨j2, ej3, hj4, hn5, hF⟩ := vG_some hF
      refine al_AObj B hP (by decide) hn5 ej3 hj4 d_Desk_signalTimersDue_13 ?_
      refine lv_astore_n (lv' := [(2, .ref (ad (pObj j2))), (0, .ref (ad (pDesk 0))), (1, .int x1)]) hx hb d_Desk_signalTimersDue_14 rfl hl (by decide) rfl (fun ls hl => ?_)
      refine lv_aload_n hx hb d_Desk_signalTimersDue_15 rfl (lv_at hl 0 rfl) ?_
      obtain ⟨r8, σ6, q7, hF⟩ := vB2_some hF
      refine ed_cvI (As := []) (rest := []) B hP hD hS hA (C_Obj_isThere l D ad ca j2 σ r8 σ6 hj4 q7) me_Obj_isThere mv_Obj_isThere L_Desk_316 (ed_rc_Obj B hP hj4) ⟨rfl, rfl⟩ ⟨Nat.le_of_ble_eq_true rfl, Nat.le_of_ble_eq_true rfl⟩ rfl rfl hl.1 (lv_room (Nat.le_of_ble_eq_true rfl)) d_Desk_signalTimersDue_16 (fun H locs hP hD hS => ?_)
      refine lv_if_eq (tgt := 55) hx hb d_Desk_signalTimersDue_19 (by decide) (fun c9 => ?_) (fun c9 => ?_)
      · have hF := vIt c9 hF
        refine lv_iinc (v := (x1 + 1)) (lv' := [(1, .int (x1 + 1)), (2, .ref (ad (pObj j2))), (0, .ref (ad (pDesk 0)))]) hx hb d_Desk_signalTimersDue_55 hl (k := 2) rfl rfl (by decide) rfl (fun ls hl => ?_)
        refine lv_goto (tgt := 2) hx hb d_Desk_signalTimersDue_58 (by decide) ?_
        exact kk2 (x1 + 1) σ6  hF _ _ _ hP hD hS (lv_sub hl [2, 0] rfl)
      · have hF := vIf c9 hF
        refine lv_aload_n hx hb d_Desk_signalTimersDue_22 rfl (lv_at hl 0 rfl) ?_
        refine gf_Obj_type B hP hj4 L_Desk_153 d_Desk_signalTimersDue_23 ?_
        refine lv_iconst (v := 4) hx hb d_Desk_signalTimersDue_26 (by decide) ?_
        refine lv_icmp_ne (tgt := 55) hx hb d_Desk_signalTimersDue_27 (by decide) (fun c10 => ?_) (fun c10 => ?_)
        · have hF := vIf c10 hF
          refine lv_iinc (v := (x1 + 1)) (lv' := [(1, .int (x1 + 1)), (2, .ref (ad (pObj j2))), (0, .ref (ad (pDesk 0)))]) hx hb d_Desk_signalTimersDue_55 hl (k := 2) rfl rfl (by decide) rfl (fun ls hl => ?_)
          refine lv_goto (tgt := 2) hx hb d_Desk_signalTimersDue_58 (by decide) ?_
          exact kk2 (x1 + 1) σ6  hF _ _ _ hP hD hS (lv_sub hl [2, 0] rfl)
        · have hF := vIt c10 hF
          refine lv_aload_n hx hb d_Desk_signalTimersDue_30 rfl (lv_at hl 0 rfl) ?_
          refine gf_Obj_due B hP hj4 L_Desk_318 d_Desk_signalTimersDue_31 ?_
          refine lv_aload_n hx hb d_Desk_signalTimersDue_34 rfl (lv_at hl 1 rfl) ?_
          refine gf_Desk_clock B hP (by decide) L_Desk_249 d_Desk_signalTimersDue_35 ?_
          refine lv_icmp_ne (tgt := 55) hx hb d_Desk_signalTimersDue_38 (by decide) (fun c11 => ?_) (fun c11 => ?_)
          · have hF := vIf c11 hF
            refine lv_iinc (v := (x1 + 1)) (lv' := [(1, .int (x1 + 1)), (2, .ref (ad (pObj j2))), (0, .ref (ad (pDesk 0)))]) hx hb d_Desk_signalTimersDue_55 hl (k := 2) rfl rfl (by decide) rfl (fun ls hl => ?_)
            refine lv_goto (tgt := 2) hx hb d_Desk_signalTimersDue_58 (by decide) ?_
            exact kk2 (x1 + 1) σ6  hF _ _ _ hP hD hS (lv_sub hl [2, 0] rfl)
          · have hF := vIt c11 hF
            refine lv_aload_n hx hb d_Desk_signalTimersDue_41 rfl (lv_at hl 0 rfl) ?_
            refine lv_iconst (v := (-1)) hx hb d_Desk_signalTimersDue_42 (by decide) ?_
            obtain ⟨σ12, e13, hF⟩ := vL_some hF
            refine pf_Obj_due B hP hD hS hj4 e13 L_Desk_318 d_Desk_signalTimersDue_43 (fun H locs hP hD hS => ?_)
            refine lv_aload_n hx hb d_Desk_signalTimersDue_46 rfl (lv_at hl 0 rfl) ?_
            refine lv_iconst (v := 1) hx hb d_Desk_signalTimersDue_47 (by decide) ?_
            obtain ⟨σ14, e15, hF⟩ := vL_some hF
            refine pf_Obj_value B hP hD hS hj4 e15 L_Desk_273 d_Desk_signalTimersDue_48 (fun H locs hP hD hS => ?_)
            refine lv_aload_n hx hb d_Desk_signalTimersDue_51 rfl (lv_at hl 1 rfl) ?_
            obtain ⟨σ16, q17, hF⟩ := vB1_some hF
            refine ed_cvV (As := []) (rest := []) B hP hD hS hA (C_Desk_release l D ad ca  σ14 σ16  q17) me_Desk_release mv_Desk_release L_Desk_343 (ed_rc_Desk B hP (by decide)) ⟨rfl, rfl⟩ ⟨Nat.le_of_ble_eq_true rfl, Nat.le_of_ble_eq_true rfl⟩ rfl rfl hl.1 (lv_room (Nat.le_of_ble_eq_true rfl)) d_Desk_signalTimersDue_52 (fun H locs hP hD hS => ?_)
            refine lv_iinc (v := (x1 + 1)) (lv' := [(1, .int (x1 + 1)), (2, .ref (ad (pObj j2))), (0, .ref (ad (pDesk 0)))]) hx hb d_Desk_signalTimersDue_55 hl (k := 2) rfl rfl (by decide) rfl (fun ls hl => ?_)
            refine lv_goto (tgt := 2) hx hb d_Desk_signalTimersDue_58 (by decide) ?_
            exact kk2 (x1 + 1) σ16  hF _ _ _ hP hD hS (lv_sub hl [2, 0] rfl)
set_option maxHeartbeats 4000000 in
set_option maxRecDepth 100000 in
theorem T_Desk_signalTimersDue {σ' : ed_S} (B : ed_B p s m args meth c prog_1_method_59_code "ExecutiveDesk" 3 D ca) (hr : meth.sig.returnType = none) (hA : ∀ q : Nat, s.heap.size ≤ q → A q) : ∀ (σ : ed_S), F_Desk_signalTimersDue   σ = some σ' → ed_G p l e rm_Desk_signalTimersDue s m args below meth c D ca (ed_w ad ca) A (ed_QV D ca (ed_w ad ca) A below args s σ') 3 0 [(0, .ref (ad (pDesk 0)))] [] σ := by
  have hx := B.1
  have hb := B.2.1
  intro  σ  hF H locs ls hP hD hS hl
  have hF : (F_Desk_signalTimersDue_2  ed_fu 0 σ) = some σ' := hF
  refine lv_iconst (v := 0) hx hb d_Desk_signalTimersDue_0 (by decide) ?_
  refine lv_istore_n (lv' := [(1, .int 0), (0, .ref (ad (pDesk 0)))]) hx hb d_Desk_signalTimersDue_1 rfl hl (by decide) rfl (fun ls hl => ?_)
  exact T_Desk_signalTimersDue_2 B hr hA  ed_fu 0 σ  hF _ _ _ hP hD hS (lv_sub hl [1, 0] rfl)
set_option maxHeartbeats 4000000 in
set_option maxRecDepth 100000 in
theorem C_Desk_signalTimersDue (l : Launch) (D : va_G) (ad : Nat → Nat) (ca : Nat → ClassId) (σ : ed_S) (σ' : ed_S) (hF : F_Desk_signalTimersDue  σ = some σ') : ed_MV l y_Desk_signalTimersDue ws_Desk_signalTimersDue rm_Desk_signalTimersDue D ca (ed_w ad ca) [.ref (ad (pDesk 0))] σ σ' := by
  refine ed_metV (cc := prog_1_method_59_code) (own := "ExecutiveDesk") (nL := 3) (ret := none) (by decide) rfl rfl (Nat.le_of_ble_eq_true rfl) ?_
  intro p e s m args below meth c A B hr hA
  exact T_Desk_signalTimersDue B hr hA  σ  hF
abbrev ws_Desk_endWaitsTimedOut : List Cond := Cond.code y_Desk_endWaitsTimedOut prog_1_method_60_code 2 none :: ed_tb
abbrev rm_Desk_endWaitsTimedOut : Room := { frames := 3, cells := 0, slots := 0, locals := 64 }
def F_Desk_endWaitsTimedOut_2 : Nat → Int32 → ed_S → Option ed_S
  | 0, _, _ => none
  | n + 1, x1, σ => (if (σ 1 0 0) ≤ x1 then (some σ) else (vG x1 8 fun j2 => (if (σ 10 j2 0) = 2 then (vG x1 8 fun j7 => (if (σ 17 j7 0) = (σ 3 0 0) then (vB1 (F_Desk_endWait x1 (-11) σ) fun σ12 => ((F_Desk_endWaitsTimedOut_2  n) (x1 + 1) σ12)) else ((F_Desk_endWaitsTimedOut_2  n) (x1 + 1) σ))) else ((F_Desk_endWaitsTimedOut_2  n) (x1 + 1) σ))))
def F_Desk_endWaitsTimedOut (σ : ed_S) : Option ed_S := (F_Desk_endWaitsTimedOut_2  ed_fu 0 σ)
set_option maxHeartbeats 4000000 in
set_option maxRecDepth 100000 in
theorem T_Desk_endWaitsTimedOut_2 {σ' : ed_S} (B : ed_B p s m args meth c prog_1_method_60_code "ExecutiveDesk" 2 D ca) (hr : meth.sig.returnType = none) (hA : ∀ q : Nat, s.heap.size ≤ q → A q) : ∀ (n : Nat) (x1 : Int32) (σ : ed_S), F_Desk_endWaitsTimedOut_2  n x1 σ = some σ' → ed_G p l e rm_Desk_endWaitsTimedOut s m args below meth c D ca (ed_w ad ca) A (ed_QV D ca (ed_w ad ca) A below args s σ') 2 2 [(0, .ref (ad (pDesk 0))), (1, .int x1)] [] σ := by
  have hx := B.1
  have hb := B.2.1
  intro n
  induction n with
  | zero => intro x1 σ  hF; exact absurd hF (by intro h; cases h)
  | succ n kk2 =>
    intro x1 σ  hF H locs ls hP hD hS hl
    have hF : (if (σ 1 0 0) ≤ x1 then (some σ) else (vG x1 8 fun j2 => (if (σ 10 j2 0) = 2 then (vG x1 8 fun j7 => (if (σ 17 j7 0) = (σ 3 0 0) then (vB1 (F_Desk_endWait x1 (-11) σ) fun σ12 => ((F_Desk_endWaitsTimedOut_2  n) (x1 + 1) σ12)) else ((F_Desk_endWaitsTimedOut_2  n) (x1 + 1) σ))) else ((F_Desk_endWaitsTimedOut_2  n) (x1 + 1) σ)))) = some σ' := hF
    refine lv_iload_n hx hb d_Desk_endWaitsTimedOut_2 rfl (lv_at hl 1 rfl) ?_
    refine lv_aload_n hx hb d_Desk_endWaitsTimedOut_3 rfl (lv_at hl 0 rfl) ?_
    refine gf_Desk_threadCount B hP (by decide) L_Desk_69 d_Desk_endWaitsTimedOut_4 ?_
    refine lv_icmp_ge (tgt := 52) hx hb d_Desk_endWaitsTimedOut_7 (by decide) (fun c1 => ?_) (fun c1 => ?_)
    · have hF := vIt c1 hF
      exact ed_rV B hr hA hP hD hS (Option.some.inj hF) d_Desk_endWaitsTimedOut_52
    · have hF := vIf c1 hF
      refine lv_aload_n hx hb d_Desk_endWaitsTimedOut_10 rfl (lv_at hl 0 rfl) ?_
      refine gf_Desk_threads B hP (by decide) L_Desk_26 d_Desk_endWaitsTimedOut_11 ?_
      refine lv_iload_n hx hb d_Desk_endWaitsTimedOut_14 rfl (lv_at hl 1 rfl) ?_
      obtain ⟨j2, ej3, hj4, hn5, hF⟩ := vG_some hF
      refine al_AThr B hP (by decide) hn5 ej3 hj4 d_Desk_endWaitsTimedOut_15 ?_
      refine gf_Thr_state B hP hj4 L_Desk_192 d_Desk_endWaitsTimedOut_16 ?_
      refine lv_iconst (v := 2) hx hb d_Desk_endWaitsTimedOut_19 (by decide) ?_
      refine lv_icmp_ne (tgt := 46) hx hb d_Desk_endWaitsTimedOut_20 (by decide) (fun c6 => ?_) (fun c6 => ?_)
      · have hF := vIf c6 hF
        refine lv_iinc (v := (x1 + 1)) (lv' := [(1, .int (x1 + 1)), (0, .ref (ad (pDesk 0)))]) hx hb d_Desk_endWaitsTimedOut_46 hl (k := 1) rfl rfl (by decide) rfl (fun ls hl => ?_)
        refine lv_goto (tgt := 2) hx hb d_Desk_endWaitsTimedOut_49 (by decide) ?_
        exact kk2 (x1 + 1) σ  hF _ _ _ hP hD hS (lv_sub hl [1, 0] rfl)
      · have hF := vIt c6 hF
        refine lv_aload_n hx hb d_Desk_endWaitsTimedOut_23 rfl (lv_at hl 0 rfl) ?_
        refine gf_Desk_threads B hP (by decide) L_Desk_26 d_Desk_endWaitsTimedOut_24 ?_
        refine lv_iload_n hx hb d_Desk_endWaitsTimedOut_27 rfl (lv_at hl 1 rfl) ?_
        obtain ⟨j7, ej8, hj9, hn10, hF⟩ := vG_some hF
        refine al_AThr B hP (by decide) hn10 ej8 hj9 d_Desk_endWaitsTimedOut_28 ?_
        refine gf_Thr_deadline B hP hj9 L_Desk_264 d_Desk_endWaitsTimedOut_29 ?_
        refine lv_aload_n hx hb d_Desk_endWaitsTimedOut_32 rfl (lv_at hl 0 rfl) ?_
        refine gf_Desk_clock B hP (by decide) L_Desk_249 d_Desk_endWaitsTimedOut_33 ?_
        refine lv_icmp_ne (tgt := 46) hx hb d_Desk_endWaitsTimedOut_36 (by decide) (fun c11 => ?_) (fun c11 => ?_)
        · have hF := vIf c11 hF
          refine lv_iinc (v := (x1 + 1)) (lv' := [(1, .int (x1 + 1)), (0, .ref (ad (pDesk 0)))]) hx hb d_Desk_endWaitsTimedOut_46 hl (k := 1) rfl rfl (by decide) rfl (fun ls hl => ?_)
          refine lv_goto (tgt := 2) hx hb d_Desk_endWaitsTimedOut_49 (by decide) ?_
          exact kk2 (x1 + 1) σ  hF _ _ _ hP hD hS (lv_sub hl [1, 0] rfl)
        · have hF := vIt c11 hF
          refine lv_aload_n hx hb d_Desk_endWaitsTimedOut_39 rfl (lv_at hl 0 rfl) ?_
          refine lv_iload_n hx hb d_Desk_endWaitsTimedOut_40 rfl (lv_at hl 1 rfl) ?_
          refine lv_bipush (v := (-11)) hx hb d_Desk_endWaitsTimedOut_41 (by decide) ?_
          obtain ⟨σ12, q13, hF⟩ := vB1_some hF
          refine ed_cvV (As := [.int x1, .int (-11)]) (rest := []) B hP hD hS hA (C_Desk_endWait l D ad ca x1 (-11) σ σ12  q13) me_Desk_endWait mv_Desk_endWait L_Desk_374 (ed_rc_Desk B hP (by decide)) ⟨rfl, rfl⟩ ⟨Nat.le_of_ble_eq_true rfl, Nat.le_of_ble_eq_true rfl⟩ rfl rfl hl.1 (lv_room (Nat.le_of_ble_eq_true rfl)) d_Desk_endWaitsTimedOut_43 (fun H locs hP hD hS => ?_)
          refine lv_iinc (v := (x1 + 1)) (lv' := [(1, .int (x1 + 1)), (0, .ref (ad (pDesk 0)))]) hx hb d_Desk_endWaitsTimedOut_46 hl (k := 1) rfl rfl (by decide) rfl (fun ls hl => ?_)
          refine lv_goto (tgt := 2) hx hb d_Desk_endWaitsTimedOut_49 (by decide) ?_
          exact kk2 (x1 + 1) σ12  hF _ _ _ hP hD hS (lv_sub hl [1, 0] rfl)
set_option maxHeartbeats 4000000 in
set_option maxRecDepth 100000 in
theorem T_Desk_endWaitsTimedOut {σ' : ed_S} (B : ed_B p s m args meth c prog_1_method_60_code "ExecutiveDesk" 2 D ca) (hr : meth.sig.returnType = none) (hA : ∀ q : Nat, s.heap.size ≤ q → A q) : ∀ (σ : ed_S), F_Desk_endWaitsTimedOut   σ = some σ' → ed_G p l e rm_Desk_endWaitsTimedOut s m args below meth c D ca (ed_w ad ca) A (ed_QV D ca (ed_w ad ca) A below args s σ') 2 0 [(0, .ref (ad (pDesk 0)))] [] σ := by
  have hx := B.1
  have hb := B.2.1
  intro  σ  hF H locs ls hP hD hS hl
  have hF : (F_Desk_endWaitsTimedOut_2  ed_fu 0 σ) = some σ' := hF
  refine lv_iconst (v := 0) hx hb d_Desk_endWaitsTimedOut_0 (by decide) ?_
  refine lv_istore_n (lv' := [(1, .int 0), (0, .ref (ad (pDesk 0)))]) hx hb d_Desk_endWaitsTimedOut_1 rfl hl (by decide) rfl (fun ls hl => ?_)
  exact T_Desk_endWaitsTimedOut_2 B hr hA  ed_fu 0 σ  hF _ _ _ hP hD hS (lv_sub hl [1, 0] rfl)
set_option maxHeartbeats 4000000 in
set_option maxRecDepth 100000 in
theorem C_Desk_endWaitsTimedOut (l : Launch) (D : va_G) (ad : Nat → Nat) (ca : Nat → ClassId) (σ : ed_S) (σ' : ed_S) (hF : F_Desk_endWaitsTimedOut  σ = some σ') : ed_MV l y_Desk_endWaitsTimedOut ws_Desk_endWaitsTimedOut rm_Desk_endWaitsTimedOut D ca (ed_w ad ca) [.ref (ad (pDesk 0))] σ σ' := by
  refine ed_metV (cc := prog_1_method_60_code) (own := "ExecutiveDesk") (nL := 2) (ret := none) (by decide) rfl rfl (Nat.le_of_ble_eq_true rfl) ?_
  intro p e s m args below meth c A B hr hA
  exact T_Desk_endWaitsTimedOut B hr hA  σ  hF
abbrev ws_Sched_useQuantum : List Cond := Cond.code y_Sched_useQuantum prog_6_method_4_code 2 none :: ed_tb
abbrev rm_Sched_useQuantum : Room := { frames := 2, cells := 0, slots := 0, locals := 43 }
def F_Sched_useQuantum (σ : ed_S) : Option ed_S := (vG (σ 5 0 0) 8 fun j1 => (vL (ed_st σ 14 j1 0 ((σ 14 j1 0) + 1)) fun σ5 => (if 3 ≤ (σ5 14 j1 0) then (vL (ed_st σ5 14 j1 0 0) fun σ8 => (vG (σ8 9 j1 0) 8 fun j10 => (if (σ8 18 (8 + j10) 0) ≤ 0 then (some σ8) else (vB1 (F_Sched_makeReady (σ8 5 0 0) σ8) fun σ15 => (vB1 (F_Sched_runFirstOf (σ15 9 j1 0) σ15) fun σ17 => (some σ17)))))) else (some σ5))))
set_option maxHeartbeats 4000000 in
set_option maxRecDepth 100000 in
theorem T_Sched_useQuantum {σ' : ed_S} (B : ed_B p s m args meth c prog_6_method_4_code "ExecutiveDesk$Scheduler" 2 D ca) (hr : meth.sig.returnType = none) (hA : ∀ q : Nat, s.heap.size ≤ q → A q) : ∀ (σ : ed_S), F_Sched_useQuantum   σ = some σ' → ed_G p l e rm_Sched_useQuantum s m args below meth c D ca (ed_w ad ca) A (ed_QV D ca (ed_w ad ca) A below args s σ') 2 0 [(0, .ref (ad (pSched 0)))] [] σ := by
  have hx := B.1
  have hb := B.2.1
  intro  σ  hF H locs ls hP hD hS hl
  have hF : (vG (σ 5 0 0) 8 fun j1 => (vL (ed_st σ 14 j1 0 ((σ 14 j1 0) + 1)) fun σ5 => (if 3 ≤ (σ5 14 j1 0) then (vL (ed_st σ5 14 j1 0 0) fun σ8 => (vG (σ8 9 j1 0) 8 fun j10 => (if (σ8 18 (8 + j10) 0) ≤ 0 then (some σ8) else (vB1 (F_Sched_makeReady (σ8 5 0 0) σ8) fun σ15 => (vB1 (F_Sched_runFirstOf (σ15 9 j1 0) σ15) fun σ17 => (some σ17)))))) else (some σ5)))) = some σ' := hF
  refine lv_aload_n hx hb d_Sched_useQuantum_0 rfl (lv_at hl 0 rfl) ?_
  refine gf_Sched_threads B hP (by decide) L_Sched_11 d_Sched_useQuantum_1 ?_
  refine lv_aload_n hx hb d_Sched_useQuantum_4 rfl (lv_at hl 0 rfl) ?_
  refine gf_Sched_running B hP (by decide) L_Sched_23 d_Sched_useQuantum_5 ?_
  obtain ⟨j1, ej2, hj3, hn4, hF⟩ := vG_some hF
  refine al_AThr B hP (by decide) hn4 ej2 hj3 d_Sched_useQuantum_8 ?_
  refine lv_astore_n (lv' := [(1, .ref (ad (pThr j1))), (0, .ref (ad (pSched 0)))]) hx hb d_Sched_useQuantum_9 rfl hl (by decide) rfl (fun ls hl => ?_)
  refine lv_aload_n hx hb d_Sched_useQuantum_10 rfl (lv_at hl 0 rfl) ?_
  refine lv_dup hx hb d_Sched_useQuantum_11 rfl ?_
  refine gf_Thr_used B hP hj3 L_Sched_53 d_Sched_useQuantum_12 ?_
  refine lv_iconst (v := 1) hx hb d_Sched_useQuantum_15 (by decide) ?_
  refine lv_iadd hx hb d_Sched_useQuantum_16 ?_
  obtain ⟨σ5, e6, hF⟩ := vL_some hF
  refine pf_Thr_used B hP hD hS hj3 e6 L_Sched_53 d_Sched_useQuantum_17 (fun H locs hP hD hS => ?_)
  refine lv_aload_n hx hb d_Sched_useQuantum_20 rfl (lv_at hl 0 rfl) ?_
  refine gf_Thr_used B hP hj3 L_Sched_53 d_Sched_useQuantum_21 ?_
  refine lv_iconst (v := 3) hx hb d_Sched_useQuantum_24 (by decide) ?_
  refine lv_icmp_ge (tgt := 29) hx hb d_Sched_useQuantum_25 (by decide) (fun c7 => ?_) (fun c7 => ?_)
  · have hF := vIt c7 hF
    refine lv_aload_n hx hb d_Sched_useQuantum_29 rfl (lv_at hl 0 rfl) ?_
    refine lv_iconst (v := 0) hx hb d_Sched_useQuantum_30 (by decide) ?_
    obtain ⟨σ8, e9, hF⟩ := vL_some hF
    refine pf_Thr_used B hP hD hS hj3 e9 L_Sched_53 d_Sched_useQuantum_31 (fun H locs hP hD hS => ?_)
    refine lv_aload_n hx hb d_Sched_useQuantum_34 rfl (lv_at hl 1 rfl) ?_
    refine gf_Sched_ready B hP (by decide) L_Sched_19 d_Sched_useQuantum_35 ?_
    refine lv_aload_n hx hb d_Sched_useQuantum_38 rfl (lv_at hl 0 rfl) ?_
    refine gf_Thr_priority B hP hj3 L_Sched_37 d_Sched_useQuantum_39 ?_
    obtain ⟨j10, ej11, hj12, hn13, hF⟩ := vG_some hF
    refine al_ARdy B hP (by decide) hn13 ej11 hj12 d_Sched_useQuantum_42 ?_
    refine gf_Row_size B hP (ed_b8 hj12) L_Sched_56 d_Sched_useQuantum_43 ?_
    refine lv_if_le (tgt := 65) hx hb d_Sched_useQuantum_46 (by decide) (fun c14 => ?_) (fun c14 => ?_)
    · have hF := vIt c14 hF
      exact ed_rV B hr hA hP hD hS (Option.some.inj hF) d_Sched_useQuantum_65
    · have hF := vIf c14 hF
      refine lv_aload_n hx hb d_Sched_useQuantum_49 rfl (lv_at hl 1 rfl) ?_
      refine lv_aload_n hx hb d_Sched_useQuantum_50 rfl (lv_at hl 1 rfl) ?_
      refine gf_Sched_running B hP (by decide) L_Sched_23 d_Sched_useQuantum_51 ?_
      obtain ⟨σ15, q16, hF⟩ := vB1_some hF
      refine ed_cvV (As := [.int (σ8 5 0 0)]) (rest := []) B hP hD hS hA (C_Sched_makeReady l D ad ca (σ8 5 0 0) σ8 σ15  q16) me_Sched_makeReady mv_Sched_makeReady L_Sched_59 (ed_rc_Sched B hP (by decide)) ⟨rfl, rfl⟩ ⟨Nat.le_of_ble_eq_true rfl, Nat.le_of_ble_eq_true rfl⟩ rfl rfl hl.1 (lv_room (Nat.le_of_ble_eq_true rfl)) d_Sched_useQuantum_54 (fun H locs hP hD hS => ?_)
      refine lv_aload_n hx hb d_Sched_useQuantum_57 rfl (lv_at hl 1 rfl) ?_
      refine lv_aload_n hx hb d_Sched_useQuantum_58 rfl (lv_at hl 0 rfl) ?_
      refine gf_Thr_priority B hP hj3 L_Sched_37 d_Sched_useQuantum_59 ?_
      obtain ⟨σ17, q18, hF⟩ := vB1_some hF
      refine ed_cvV (As := [.int (σ15 9 j1 0)]) (rest := []) B hP hD hS hA (C_Sched_runFirstOf l D ad ca (σ15 9 j1 0) σ15 σ17  q18) me_Sched_runFirstOf mv_Sched_runFirstOf L_Sched_50 (ed_rc_Sched B hP (by decide)) ⟨rfl, rfl⟩ ⟨Nat.le_of_ble_eq_true rfl, Nat.le_of_ble_eq_true rfl⟩ rfl rfl hl.1 (lv_room (Nat.le_of_ble_eq_true rfl)) d_Sched_useQuantum_62 (fun H locs hP hD hS => ?_)
      exact ed_rV B hr hA hP hD hS (Option.some.inj hF) d_Sched_useQuantum_65
  · have hF := vIf c7 hF
    exact ed_rV B hr hA hP hD hS (Option.some.inj hF) d_Sched_useQuantum_28
set_option maxHeartbeats 4000000 in
set_option maxRecDepth 100000 in
theorem C_Sched_useQuantum (l : Launch) (D : va_G) (ad : Nat → Nat) (ca : Nat → ClassId) (σ : ed_S) (σ' : ed_S) (hF : F_Sched_useQuantum  σ = some σ') : ed_MV l y_Sched_useQuantum ws_Sched_useQuantum rm_Sched_useQuantum D ca (ed_w ad ca) [.ref (ad (pSched 0))] σ σ' := by
  refine ed_metV (cc := prog_6_method_4_code) (own := "ExecutiveDesk$Scheduler") (nL := 2) (ret := none) (by decide) rfl rfl (Nat.le_of_ble_eq_true rfl) ?_
  intro p e s m args below meth c A B hr hA
  exact T_Sched_useQuantum B hr hA  σ  hF
abbrev ws_Desk_passOneTick : List Cond := Cond.code y_Desk_passOneTick prog_1_method_58_code 2 none :: ed_tb
abbrev rm_Desk_passOneTick : Room := { frames := 5, cells := 0, slots := 0, locals := 113 }
def F_Desk_passOneTick (σ : ed_S) : Option ed_S := (vL (ed_st σ 3 0 0 ((σ 3 0 0) + 1)) fun σ1 => (vB1 (F_Desk_signalTimersDue  σ1) fun σ3 => (vB1 (F_Desk_endWaitsTimedOut  σ3) fun σ5 => (vB1 (F_Desk_lookWhoRuns  σ5) fun σ7 => (if (σ7 4 0 0) = 0 then (if (σ 5 0 0) = (-1) then (some σ7) else (if (σ7 5 0 0) = (σ 5 0 0) then (vB1 (F_Sched_useQuantum  σ7) fun σ12 => (some σ12)) else (some σ7))) else (some σ7))))))
set_option maxHeartbeats 4000000 in
set_option maxRecDepth 100000 in
theorem T_Desk_passOneTick {σ' : ed_S} (B : ed_B p s m args meth c prog_1_method_58_code "ExecutiveDesk" 2 D ca) (hr : meth.sig.returnType = none) (hA : ∀ q : Nat, s.heap.size ≤ q → A q) : ∀ (σ : ed_S), F_Desk_passOneTick   σ = some σ' → ed_G p l e rm_Desk_passOneTick s m args below meth c D ca (ed_w ad ca) A (ed_QV D ca (ed_w ad ca) A below args s σ') 2 0 [(0, .ref (ad (pDesk 0)))] [] σ := by
  have hx := B.1
  have hb := B.2.1
  intro  σ  hF H locs ls hP hD hS hl
  have hF : (vL (ed_st σ 3 0 0 ((σ 3 0 0) + 1)) fun σ1 => (vB1 (F_Desk_signalTimersDue  σ1) fun σ3 => (vB1 (F_Desk_endWaitsTimedOut  σ3) fun σ5 => (vB1 (F_Desk_lookWhoRuns  σ5) fun σ7 => (if (σ7 4 0 0) = 0 then (if (σ 5 0 0) = (-1) then (some σ7) else (if (σ7 5 0 0) = (σ 5 0 0) then (vB1 (F_Sched_useQuantum  σ7) fun σ12 => (some σ12)) else (some σ7))) else (some σ7)))))) = some σ' := hF
  refine lv_aload_n hx hb d_Desk_passOneTick_0 rfl (lv_at hl 0 rfl) ?_
  refine gf_Desk_scheduler B hP (by decide) L_Desk_18 d_Desk_passOneTick_1 ?_
  refine gf_Sched_running B hP (by decide) L_Desk_92 d_Desk_passOneTick_4 ?_
  refine lv_istore_n (lv' := [(1, .int (σ 5 0 0)), (0, .ref (ad (pDesk 0)))]) hx hb d_Desk_passOneTick_7 rfl hl (by decide) rfl (fun ls hl => ?_)
  refine lv_aload_n hx hb d_Desk_passOneTick_8 rfl (lv_at hl 1 rfl) ?_
  refine lv_dup hx hb d_Desk_passOneTick_9 rfl ?_
  refine gf_Desk_clock B hP (by decide) L_Desk_249 d_Desk_passOneTick_10 ?_
  refine lv_iconst (v := 1) hx hb d_Desk_passOneTick_13 (by decide) ?_
  refine lv_iadd hx hb d_Desk_passOneTick_14 ?_
  obtain ⟨σ1, e2, hF⟩ := vL_some hF
  refine pf_Desk_clock B hP hD hS (by decide) e2 L_Desk_249 d_Desk_passOneTick_15 (fun H locs hP hD hS => ?_)
  refine lv_aload_n hx hb d_Desk_passOneTick_18 rfl (lv_at hl 1 rfl) ?_
  obtain ⟨σ3, q4, hF⟩ := vB1_some hF
  refine ed_cvV (As := []) (rest := []) B hP hD hS hA (C_Desk_signalTimersDue l D ad ca  σ1 σ3  q4) me_Desk_signalTimersDue mv_Desk_signalTimersDue L_Desk_393 (ed_rc_Desk B hP (by decide)) ⟨rfl, rfl⟩ ⟨Nat.le_of_ble_eq_true rfl, Nat.le_of_ble_eq_true rfl⟩ rfl rfl hl.1 (lv_room (Nat.le_of_ble_eq_true rfl)) d_Desk_passOneTick_19 (fun H locs hP hD hS => ?_)
  refine lv_aload_n hx hb d_Desk_passOneTick_22 rfl (lv_at hl 1 rfl) ?_
  obtain ⟨σ5, q6, hF⟩ := vB1_some hF
  refine ed_cvV (As := []) (rest := []) B hP hD hS hA (C_Desk_endWaitsTimedOut l D ad ca  σ3 σ5  q6) me_Desk_endWaitsTimedOut mv_Desk_endWaitsTimedOut L_Desk_396 (ed_rc_Desk B hP (by decide)) ⟨rfl, rfl⟩ ⟨Nat.le_of_ble_eq_true rfl, Nat.le_of_ble_eq_true rfl⟩ rfl rfl hl.1 (lv_room (Nat.le_of_ble_eq_true rfl)) d_Desk_passOneTick_23 (fun H locs hP hD hS => ?_)
  refine lv_aload_n hx hb d_Desk_passOneTick_26 rfl (lv_at hl 1 rfl) ?_
  obtain ⟨σ7, q8, hF⟩ := vB1_some hF
  refine ed_cvV (As := []) (rest := []) B hP hD hS hA (C_Desk_lookWhoRuns l D ad ca  σ5 σ7  q8) me_Desk_lookWhoRuns mv_Desk_lookWhoRuns L_Desk_89 (ed_rc_Desk B hP (by decide)) ⟨rfl, rfl⟩ ⟨Nat.le_of_ble_eq_true rfl, Nat.le_of_ble_eq_true rfl⟩ rfl rfl hl.1 (lv_room (Nat.le_of_ble_eq_true rfl)) d_Desk_passOneTick_27 (fun H locs hP hD hS => ?_)
  refine lv_aload_n hx hb d_Desk_passOneTick_30 rfl (lv_at hl 1 rfl) ?_
  refine gf_Desk_currentLevel B hP (by decide) L_Desk_163 d_Desk_passOneTick_31 ?_
  refine lv_if_ne (tgt := 60) hx hb d_Desk_passOneTick_34 (by decide) (fun c9 => ?_) (fun c9 => ?_)
  · have hF := vIf c9 hF
    exact ed_rV B hr hA hP hD hS (Option.some.inj hF) d_Desk_passOneTick_60
  · have hF := vIt c9 hF
    refine lv_iload_n hx hb d_Desk_passOneTick_37 rfl (lv_at hl 0 rfl) ?_
    refine lv_iconst (v := (-1)) hx hb d_Desk_passOneTick_38 (by decide) ?_
    refine lv_icmp_eq (tgt := 60) hx hb d_Desk_passOneTick_39 (by decide) (fun c10 => ?_) (fun c10 => ?_)
    · have hF := vIt c10 hF
      exact ed_rV B hr hA hP hD hS (Option.some.inj hF) d_Desk_passOneTick_60
    · have hF := vIf c10 hF
      refine lv_aload_n hx hb d_Desk_passOneTick_42 rfl (lv_at hl 1 rfl) ?_
      refine gf_Desk_scheduler B hP (by decide) L_Desk_18 d_Desk_passOneTick_43 ?_
      refine gf_Sched_running B hP (by decide) L_Desk_92 d_Desk_passOneTick_46 ?_
      refine lv_iload_n hx hb d_Desk_passOneTick_49 rfl (lv_at hl 0 rfl) ?_
      refine lv_icmp_ne (tgt := 60) hx hb d_Desk_passOneTick_50 (by decide) (fun c11 => ?_) (fun c11 => ?_)
      · have hF := vIf c11 hF
        exact ed_rV B hr hA hP hD hS (Option.some.inj hF) d_Desk_passOneTick_60
      · have hF := vIt c11 hF
        refine lv_aload_n hx hb d_Desk_passOneTick_53 rfl (lv_at hl 1 rfl) ?_
        refine gf_Desk_scheduler B hP (by decide) L_Desk_18 d_Desk_passOneTick_54 ?_
        obtain ⟨σ12, q13, hF⟩ := vB1_some hF
        refine ed_cvV (As := []) (rest := []) B hP hD hS hA (C_Sched_useQuantum l D ad ca  σ7 σ12  q13) me_Sched_useQuantum mv_Sched_useQuantum L_Desk_399 (ed_rc_Sched B hP (by decide)) ⟨rfl, rfl⟩ ⟨Nat.le_of_ble_eq_true rfl, Nat.le_of_ble_eq_true rfl⟩ rfl rfl hl.1 (lv_room (Nat.le_of_ble_eq_true rfl)) d_Desk_passOneTick_57 (fun H locs hP hD hS => ?_)
        exact ed_rV B hr hA hP hD hS (Option.some.inj hF) d_Desk_passOneTick_60
set_option maxHeartbeats 4000000 in
set_option maxRecDepth 100000 in
theorem C_Desk_passOneTick (l : Launch) (D : va_G) (ad : Nat → Nat) (ca : Nat → ClassId) (σ : ed_S) (σ' : ed_S) (hF : F_Desk_passOneTick  σ = some σ') : ed_MV l y_Desk_passOneTick ws_Desk_passOneTick rm_Desk_passOneTick D ca (ed_w ad ca) [.ref (ad (pDesk 0))] σ σ' := by
  refine ed_metV (cc := prog_1_method_58_code) (own := "ExecutiveDesk") (nL := 2) (ret := none) (by decide) rfl rfl (Nat.le_of_ble_eq_true rfl) ?_
  intro p e s m args below meth c A B hr hA
  exact T_Desk_passOneTick B hr hA  σ  hF
end EDT
