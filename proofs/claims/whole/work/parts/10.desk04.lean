section EDT
variable {p : Program} {l : Launch} {e : Env} {s : State} {m : MethodId} {args : Array Value} {below : List Frame} {meth : Method} {c : Code} {D : va_G} {ad : Nat → Nat} {ca : Nat → ClassId} {A : Nat → Prop}
abbrev ws_Desk_giveBack : List Cond := Cond.code y_Desk_giveBack prog_1_method_41_code 3 (some .int) :: ed_tb
abbrev rm_Desk_giveBack : Room := { frames := 4, cells := 0, slots := 0, locals := 91 }
def F_Desk_giveBack (i1 : Nat) (σ : ed_S) : Option (Int32 × ed_S) := (if (σ 27 i1 0) = (σ 5 0 0) then (vL (ed_st σ 26 i1 0 ((σ 26 i1 0) - 1)) fun σ2 => (if (σ2 26 i1 0) = 0 then (vL (ed_st σ2 27 i1 0 (-1)) fun σ5 => (vB1 (F_Desk_release  σ5) fun σ7 => (some ((σ2 26 i1 0), σ7)))) else (some ((σ2 26 i1 0), σ2)))) else (some ((-9), σ)))
set_option maxHeartbeats 4000000 in
set_option maxRecDepth 100000 in
theorem T_Desk_giveBack {r : Int32} {σ' : ed_S} (B : ed_B p s m args meth c prog_1_method_41_code "ExecutiveDesk" 3 D ca) (hr : meth.sig.returnType = (some .int)) (hA : ∀ q : Nat, s.heap.size ≤ q → A q) : ∀ (i1 : Nat) (σ : ed_S), i1 < 16 → F_Desk_giveBack  i1 σ = some (r, σ') → ed_G p l e rm_Desk_giveBack s m args below meth c D ca (ed_w ad ca) A (ed_QI D ca (ed_w ad ca) A below args s r σ') 3 0 [(0, .ref (ad (pDesk 0))), (1, .ref (ad (pObj i1)))] [] σ := by
  have hx := B.1
  have hb := B.2.1
  intro i1 σ h1 hF H locs ls hP hD hS hl
  have hF : (if (σ 27 i1 0) = (σ 5 0 0) then (vL (ed_st σ 26 i1 0 ((σ 26 i1 0) - 1)) fun σ2 => (if (σ2 26 i1 0) = 0 then (vL (ed_st σ2 27 i1 0 (-1)) fun σ5 => (vB1 (F_Desk_release  σ5) fun σ7 => (some ((σ2 26 i1 0), σ7)))) else (some ((σ2 26 i1 0), σ2)))) else (some ((-9), σ))) = some (r, σ') := hF
  refine lv_aload_n hx hb d_Desk_giveBack_0 rfl (lv_at hl 1 rfl) ?_
  refine gf_Obj_owner B hP h1 L_Desk_117 d_Desk_giveBack_1 ?_
  refine lv_aload_n hx hb d_Desk_giveBack_4 rfl (lv_at hl 0 rfl) ?_
  refine gf_Desk_scheduler B hP (by decide) L_Desk_18 d_Desk_giveBack_5 ?_
  refine gf_Sched_running B hP (by decide) L_Desk_92 d_Desk_giveBack_8 ?_
  refine lv_icmp_eq (tgt := 17) hx hb d_Desk_giveBack_11 (by decide) (fun c1 => ?_) (fun c1 => ?_)
  · have hF := vIt c1 hF
    refine lv_aload_n hx hb d_Desk_giveBack_17 rfl (lv_at hl 1 rfl) ?_
    refine lv_dup hx hb d_Desk_giveBack_18 rfl ?_
    refine gf_Obj_value B hP h1 L_Desk_273 d_Desk_giveBack_19 ?_
    refine lv_iconst (v := 1) hx hb d_Desk_giveBack_22 (by decide) ?_
    refine lv_isub hx hb d_Desk_giveBack_23 ?_
    obtain ⟨σ2, e3, hF⟩ := vL_some hF
    refine pf_Obj_value B hP hD hS h1 e3 L_Desk_273 d_Desk_giveBack_24 (fun H locs hP hD hS => ?_)
    refine lv_aload_n hx hb d_Desk_giveBack_27 rfl (lv_at hl 1 rfl) ?_
    refine gf_Obj_value B hP h1 L_Desk_273 d_Desk_giveBack_28 ?_
    refine lv_istore_n (lv' := [(2, .int (σ2 26 i1 0)), (0, .ref (ad (pDesk 0))), (1, .ref (ad (pObj i1)))]) hx hb d_Desk_giveBack_31 rfl hl (by decide) rfl (fun ls hl => ?_)
    refine lv_iload_n hx hb d_Desk_giveBack_32 rfl (lv_at hl 0 rfl) ?_
    refine lv_if_ne (tgt := 45) hx hb d_Desk_giveBack_33 (by decide) (fun c4 => ?_) (fun c4 => ?_)
    · have hF := vIf c4 hF
      refine lv_iload_n hx hb d_Desk_giveBack_45 rfl (lv_at hl 0 rfl) ?_
      exact ed_rI B hr hA hP hD hS (vP hF) d_Desk_giveBack_46
    · have hF := vIt c4 hF
      refine lv_aload_n hx hb d_Desk_giveBack_36 rfl (lv_at hl 2 rfl) ?_
      refine lv_iconst (v := (-1)) hx hb d_Desk_giveBack_37 (by decide) ?_
      obtain ⟨σ5, e6, hF⟩ := vL_some hF
      refine pf_Obj_owner B hP hD hS h1 e6 L_Desk_117 d_Desk_giveBack_38 (fun H locs hP hD hS => ?_)
      refine lv_aload_n hx hb d_Desk_giveBack_41 rfl (lv_at hl 1 rfl) ?_
      obtain ⟨σ7, q8, hF⟩ := vB1_some hF
      refine ed_cvV (As := []) (rest := []) B hP hD hS hA (C_Desk_release l D ad ca  σ5 σ7  q8) me_Desk_release mv_Desk_release L_Desk_343 (ed_rc_Desk B hP (by decide)) ⟨rfl, rfl⟩ ⟨Nat.le_of_ble_eq_true rfl, Nat.le_of_ble_eq_true rfl⟩ rfl rfl hl.1 (lv_room (Nat.le_of_ble_eq_true rfl)) d_Desk_giveBack_42 (fun H locs hP hD hS => ?_)
      refine lv_iload_n hx hb d_Desk_giveBack_45 rfl (lv_at hl 0 rfl) ?_
      exact ed_rI B hr hA hP hD hS (vP hF) d_Desk_giveBack_46
  · have hF := vIf c1 hF
    refine lv_bipush (v := (-9)) hx hb d_Desk_giveBack_14 (by decide) ?_
    exact ed_rI B hr hA hP hD hS (vP hF) d_Desk_giveBack_16
set_option maxHeartbeats 4000000 in
set_option maxRecDepth 100000 in
theorem C_Desk_giveBack (l : Launch) (D : va_G) (ad : Nat → Nat) (ca : Nat → ClassId) (i1 : Nat) (σ : ed_S) (r : Int32) (σ' : ed_S) (h1 : i1 < 16) (hF : F_Desk_giveBack i1 σ = some (r, σ')) : ed_MI l y_Desk_giveBack ws_Desk_giveBack rm_Desk_giveBack D ca (ed_w ad ca) [.ref (ad (pDesk 0)), .ref (ad (pObj i1))] σ r σ' := by
  refine ed_metI (cc := prog_1_method_41_code) (own := "ExecutiveDesk") (nL := 3) (ret := (some .int)) (by decide) rfl rfl (Nat.le_of_ble_eq_true rfl) ?_
  intro p e s m args below meth c A B hr hA
  exact T_Desk_giveBack B hr hA i1 σ h1 hF
abbrev ws_Desk_startTimer : List Cond := Cond.code y_Desk_startTimer prog_1_method_42_code 4 (some .int) :: ed_tb
abbrev rm_Desk_startTimer : Room := { frames := 0, cells := 0, slots := 0, locals := 0 }
def F_Desk_startTimer (i1 : Nat) (x2 : Int32) (σ : ed_S) : Option (Int32 × ed_S) := (vL (ed_st σ 26 i1 0 0) fun σ1 => (if x2 = 0 then (vL (ed_st σ1 29 i1 0 (-1)) fun σ6 => (some ((σ 26 i1 0), σ6))) else (vL (ed_st σ1 29 i1 0 ((σ1 3 0 0) + x2)) fun σ4 => (some ((σ 26 i1 0), σ4)))))
set_option maxHeartbeats 4000000 in
set_option maxRecDepth 100000 in
theorem T_Desk_startTimer {r : Int32} {σ' : ed_S} (B : ed_B p s m args meth c prog_1_method_42_code "ExecutiveDesk" 4 D ca) (hr : meth.sig.returnType = (some .int)) (hA : ∀ q : Nat, s.heap.size ≤ q → A q) : ∀ (i1 : Nat) (x2 : Int32) (σ : ed_S), i1 < 16 → F_Desk_startTimer  i1 x2 σ = some (r, σ') → ed_G p l e rm_Desk_startTimer s m args below meth c D ca (ed_w ad ca) A (ed_QI D ca (ed_w ad ca) A below args s r σ') 4 0 [(0, .ref (ad (pDesk 0))), (1, .ref (ad (pObj i1))), (2, .int x2)] [] σ := by
  have hx := B.1
  have hb := B.2.1
  intro i1 x2 σ h1 hF H locs ls hP hD hS hl
  have hF : (vL (ed_st σ 26 i1 0 0) fun σ1 => (if x2 = 0 then (vL (ed_st σ1 29 i1 0 (-1)) fun σ6 => (some ((σ 26 i1 0), σ6))) else (vL (ed_st σ1 29 i1 0 ((σ1 3 0 0) + x2)) fun σ4 => (some ((σ 26 i1 0), σ4))))) = some (r, σ') := hF
  refine lv_aload_n hx hb d_Desk_startTimer_0 rfl (lv_at hl 1 rfl) ?_
  refine gf_Obj_value B hP h1 L_Desk_273 d_Desk_startTimer_1 ?_
  refine lv_istore_n (lv' := [(3, .int (σ 26 i1 0)), (0, .ref (ad (pDesk 0))), (1, .ref (ad (pObj i1))), (2, .int x2)]) hx hb d_Desk_startTimer_4 rfl hl (by decide) rfl (fun ls hl => ?_)
  refine lv_aload_n hx hb d_Desk_startTimer_5 rfl (lv_at hl 2 rfl) ?_
  refine lv_iconst (v := 0) hx hb d_Desk_startTimer_6 (by decide) ?_
  obtain ⟨σ1, e2, hF⟩ := vL_some hF
  refine pf_Obj_value B hP hD hS h1 e2 L_Desk_273 d_Desk_startTimer_7 (fun H locs hP hD hS => ?_)
  refine lv_aload_n hx hb d_Desk_startTimer_10 rfl (lv_at hl 2 rfl) ?_
  refine lv_iload_n hx hb d_Desk_startTimer_11 rfl (lv_at hl 3 rfl) ?_
  refine lv_if_ne (tgt := 19) hx hb d_Desk_startTimer_12 (by decide) (fun c3 => ?_) (fun c3 => ?_)
  · have hF := vIf c3 hF
    refine lv_aload_n hx hb d_Desk_startTimer_19 rfl (lv_at hl 1 rfl) ?_
    refine gf_Desk_clock B hP (by decide) L_Desk_249 d_Desk_startTimer_20 ?_
    refine lv_iload_n hx hb d_Desk_startTimer_23 rfl (lv_at hl 3 rfl) ?_
    refine lv_iadd hx hb d_Desk_startTimer_24 ?_
    obtain ⟨σ4, e5, hF⟩ := vL_some hF
    refine pf_Obj_due B hP hD hS h1 e5 L_Desk_318 d_Desk_startTimer_25 (fun H locs hP hD hS => ?_)
    refine lv_iload_n hx hb d_Desk_startTimer_28 rfl (lv_at hl 0 rfl) ?_
    exact ed_rI B hr hA hP hD hS (vP hF) d_Desk_startTimer_29
  · have hF := vIt c3 hF
    refine lv_iconst (v := (-1)) hx hb d_Desk_startTimer_15 (by decide) ?_
    refine lv_goto (tgt := 25) hx hb d_Desk_startTimer_16 (by decide) ?_
    obtain ⟨σ6, e7, hF⟩ := vL_some hF
    refine pf_Obj_due B hP hD hS h1 e7 L_Desk_318 d_Desk_startTimer_25 (fun H locs hP hD hS => ?_)
    refine lv_iload_n hx hb d_Desk_startTimer_28 rfl (lv_at hl 0 rfl) ?_
    exact ed_rI B hr hA hP hD hS (vP hF) d_Desk_startTimer_29
set_option maxHeartbeats 4000000 in
set_option maxRecDepth 100000 in
theorem C_Desk_startTimer (l : Launch) (D : va_G) (ad : Nat → Nat) (ca : Nat → ClassId) (i1 : Nat) (x2 : Int32) (σ : ed_S) (r : Int32) (σ' : ed_S) (h1 : i1 < 16) (hF : F_Desk_startTimer i1 x2 σ = some (r, σ')) : ed_MI l y_Desk_startTimer ws_Desk_startTimer rm_Desk_startTimer D ca (ed_w ad ca) [.ref (ad (pDesk 0)), .ref (ad (pObj i1)), .int x2] σ r σ' := by
  refine ed_metI (cc := prog_1_method_42_code) (own := "ExecutiveDesk") (nL := 4) (ret := (some .int)) (by decide) rfl rfl (Nat.le_of_ble_eq_true rfl) ?_
  intro p e s m args below meth c A B hr hA
  exact T_Desk_startTimer B hr hA i1 x2 σ h1 hF
abbrev ws_Desk_turnTo : List Cond := Cond.code y_Desk_turnTo prog_1_method_39_code 4 (some .int) :: ed_tb
abbrev rm_Desk_turnTo : Room := { frames := 4, cells := 0, slots := 0, locals := 91 }
def F_Desk_turnTo (i1 : Nat) (x2 : Int32) (σ : ed_S) : Option (Int32 × ed_S) := (vL (ed_st σ 26 i1 0 x2) fun σ1 => (if x2 = 1 then (vB1 (F_Desk_release  σ1) fun σ4 => (some ((σ 26 i1 0), σ4))) else (some ((σ 26 i1 0), σ1))))
set_option maxHeartbeats 4000000 in
set_option maxRecDepth 100000 in
theorem T_Desk_turnTo {r : Int32} {σ' : ed_S} (B : ed_B p s m args meth c prog_1_method_39_code "ExecutiveDesk" 4 D ca) (hr : meth.sig.returnType = (some .int)) (hA : ∀ q : Nat, s.heap.size ≤ q → A q) : ∀ (i1 : Nat) (x2 : Int32) (σ : ed_S), i1 < 16 → F_Desk_turnTo  i1 x2 σ = some (r, σ') → ed_G p l e rm_Desk_turnTo s m args below meth c D ca (ed_w ad ca) A (ed_QI D ca (ed_w ad ca) A below args s r σ') 4 0 [(0, .ref (ad (pDesk 0))), (1, .ref (ad (pObj i1))), (2, .int x2)] [] σ := by
  have hx := B.1
  have hb := B.2.1
  intro i1 x2 σ h1 hF H locs ls hP hD hS hl
  have hF : (vL (ed_st σ 26 i1 0 x2) fun σ1 => (if x2 = 1 then (vB1 (F_Desk_release  σ1) fun σ4 => (some ((σ 26 i1 0), σ4))) else (some ((σ 26 i1 0), σ1)))) = some (r, σ') := hF
  refine lv_aload_n hx hb d_Desk_turnTo_0 rfl (lv_at hl 1 rfl) ?_
  refine gf_Obj_value B hP h1 L_Desk_273 d_Desk_turnTo_1 ?_
  refine lv_istore_n (lv' := [(3, .int (σ 26 i1 0)), (0, .ref (ad (pDesk 0))), (1, .ref (ad (pObj i1))), (2, .int x2)]) hx hb d_Desk_turnTo_4 rfl hl (by decide) rfl (fun ls hl => ?_)
  refine lv_aload_n hx hb d_Desk_turnTo_5 rfl (lv_at hl 2 rfl) ?_
  refine lv_iload_n hx hb d_Desk_turnTo_6 rfl (lv_at hl 3 rfl) ?_
  obtain ⟨σ1, e2, hF⟩ := vL_some hF
  refine pf_Obj_value B hP hD hS h1 e2 L_Desk_273 d_Desk_turnTo_7 (fun H locs hP hD hS => ?_)
  refine lv_iload_n hx hb d_Desk_turnTo_10 rfl (lv_at hl 3 rfl) ?_
  refine lv_iconst (v := 1) hx hb d_Desk_turnTo_11 (by decide) ?_
  refine lv_icmp_ne (tgt := 19) hx hb d_Desk_turnTo_12 (by decide) (fun c3 => ?_) (fun c3 => ?_)
  · have hF := vIf c3 hF
    refine lv_iload_n hx hb d_Desk_turnTo_19 rfl (lv_at hl 0 rfl) ?_
    exact ed_rI B hr hA hP hD hS (vP hF) d_Desk_turnTo_20
  · have hF := vIt c3 hF
    refine lv_aload_n hx hb d_Desk_turnTo_15 rfl (lv_at hl 1 rfl) ?_
    obtain ⟨σ4, q5, hF⟩ := vB1_some hF
    refine ed_cvV (As := []) (rest := []) B hP hD hS hA (C_Desk_release l D ad ca  σ1 σ4  q5) me_Desk_release mv_Desk_release L_Desk_343 (ed_rc_Desk B hP (by decide)) ⟨rfl, rfl⟩ ⟨Nat.le_of_ble_eq_true rfl, Nat.le_of_ble_eq_true rfl⟩ rfl rfl hl.1 (lv_room (Nat.le_of_ble_eq_true rfl)) d_Desk_turnTo_16 (fun H locs hP hD hS => ?_)
    refine lv_iload_n hx hb d_Desk_turnTo_19 rfl (lv_at hl 0 rfl) ?_
    exact ed_rI B hr hA hP hD hS (vP hF) d_Desk_turnTo_20
set_option maxHeartbeats 4000000 in
set_option maxRecDepth 100000 in
theorem C_Desk_turnTo (l : Launch) (D : va_G) (ad : Nat → Nat) (ca : Nat → ClassId) (i1 : Nat) (x2 : Int32) (σ : ed_S) (r : Int32) (σ' : ed_S) (h1 : i1 < 16) (hF : F_Desk_turnTo i1 x2 σ = some (r, σ')) : ed_MI l y_Desk_turnTo ws_Desk_turnTo rm_Desk_turnTo D ca (ed_w ad ca) [.ref (ad (pDesk 0)), .ref (ad (pObj i1)), .int x2] σ r σ' := by
  refine ed_metI (cc := prog_1_method_39_code) (own := "ExecutiveDesk") (nL := 4) (ret := (some .int)) (by decide) rfl rfl (Nat.le_of_ble_eq_true rfl) ?_
  intro p e s m args below meth c A B hr hA
  exact T_Desk_turnTo B hr hA i1 x2 σ h1 hF
abbrev ws_Desk_change : List Cond := Cond.code y_Desk_change prog_1_method_38_code 3 (some .int) :: ed_tb
abbrev rm_Desk_change : Room := { frames := 5, cells := 0, slots := 0, locals := 114 }
def F_Desk_change (i1 : Nat) (x2 : Int32) (σ : ed_S) : Option (Int32 × ed_S) := (if (σ 22 i1 0) = 2 then (vB2 (F_Desk_giveBack i1 σ) fun r4 σ2 => (some (r4, σ2))) else (if (σ 22 i1 0) = 3 then (vB2 (F_Desk_raiseCount i1 x2 σ) fun r8 σ6 => (some (r8, σ6))) else (if (σ 22 i1 0) = 4 then (vB2 (F_Desk_startTimer i1 x2 σ) fun r12 σ10 => (some (r12, σ10))) else (vB2 (F_Desk_turnTo i1 x2 σ) fun r15 σ13 => (some (r15, σ13))))))
set_option maxHeartbeats 4000000 in
set_option maxRecDepth 100000 in
theorem T_Desk_change {r : Int32} {σ' : ed_S} (B : ed_B p s m args meth c prog_1_method_38_code "ExecutiveDesk" 3 D ca) (hr : meth.sig.returnType = (some .int)) (hA : ∀ q : Nat, s.heap.size ≤ q → A q) : ∀ (i1 : Nat) (x2 : Int32) (σ : ed_S), i1 < 16 → F_Desk_change  i1 x2 σ = some (r, σ') → ed_G p l e rm_Desk_change s m args below meth c D ca (ed_w ad ca) A (ed_QI D ca (ed_w ad ca) A below args s r σ') 3 0 [(0, .ref (ad (pDesk 0))), (1, .ref (ad (pObj i1))), (2, .int x2)] [] σ := by
  have hx := B.1
  have hb := B.2.1
  intro i1 x2 σ h1 hF H locs ls hP hD hS hl
  have hF : (if (σ 22 i1 0) = 2 then (vB2 (F_Desk_giveBack i1 σ) fun r4 σ2 => (some (r4, σ2))) else (if (σ 22 i1 0) = 3 then (vB2 (F_Desk_raiseCount i1 x2 σ) fun r8 σ6 => (some (r8, σ6))) else (if (σ 22 i1 0) = 4 then (vB2 (F_Desk_startTimer i1 x2 σ) fun r12 σ10 => (some (r12, σ10))) else (vB2 (F_Desk_turnTo i1 x2 σ) fun r15 σ13 => (some (r15, σ13)))))) = some (r, σ') := hF
  refine lv_aload_n hx hb d_Desk_change_0 rfl (lv_at hl 1 rfl) ?_
  refine gf_Obj_type B hP h1 L_Desk_153 d_Desk_change_1 ?_
  rcases Decidable.em ((σ 22 i1 0) = 2) with c1 | c1
  · have hF := vIt c1 hF
    refine lv_tableIn (off := 35) (tgt := 39) hx hb d_Desk_change_4 (by rw [c1]; decide) (by rw [c1]; decide) (by rw [c1]; rfl) (by decide) ?_
    refine lv_aload_n hx hb d_Desk_change_39 rfl (lv_at hl 0 rfl) ?_
    refine lv_aload_n hx hb d_Desk_change_40 rfl (lv_at hl 1 rfl) ?_
    obtain ⟨r4, σ2, q3, hF⟩ := vB2_some hF
    refine ed_cvI (As := [.ref (ad (pObj i1))]) (rest := []) B hP hD hS hA (C_Desk_giveBack l D ad ca i1 σ r4 σ2 h1 q3) me_Desk_giveBack mv_Desk_giveBack L_Desk_334 (ed_rc_Desk B hP (by decide)) ⟨rfl, rfl⟩ ⟨Nat.le_of_ble_eq_true rfl, Nat.le_of_ble_eq_true rfl⟩ rfl rfl hl.1 (lv_room (Nat.le_of_ble_eq_true rfl)) d_Desk_change_41 (fun H locs hP hD hS => ?_)
    exact ed_rI B hr hA hP hD hS (vP hF) d_Desk_change_44
  have hF := vIf c1 hF
  rcases Decidable.em ((σ 22 i1 0) = 3) with c5 | c5
  · have hF := vIt c5 hF
    refine lv_tableIn (off := 28) (tgt := 32) hx hb d_Desk_change_4 (by rw [c5]; decide) (by rw [c5]; decide) (by rw [c5]; rfl) (by decide) ?_
    refine lv_aload_n hx hb d_Desk_change_32 rfl (lv_at hl 0 rfl) ?_
    refine lv_aload_n hx hb d_Desk_change_33 rfl (lv_at hl 1 rfl) ?_
    refine lv_iload_n hx hb d_Desk_change_34 rfl (lv_at hl 2 rfl) ?_
    obtain ⟨r8, σ6, q7, hF⟩ := vB2_some hF
    refine ed_cvI (As := [.ref (ad (pObj i1)), .int x2]) (rest := []) B hP hD hS hA (C_Desk_raiseCount l D ad ca i1 x2 σ r8 σ6 h1 q7) me_Desk_raiseCount mv_Desk_raiseCount L_Desk_331 (ed_rc_Desk B hP (by decide)) ⟨rfl, rfl⟩ ⟨Nat.le_of_ble_eq_true rfl, Nat.le_of_ble_eq_true rfl⟩ rfl rfl hl.1 (lv_room (Nat.le_of_ble_eq_true rfl)) d_Desk_change_35 (fun H locs hP hD hS => ?_)
    exact ed_rI B hr hA hP hD hS (vP hF) d_Desk_change_38
  have hF := vIf c5 hF
  rcases Decidable.em ((σ 22 i1 0) = 4) with c9 | c9
  · have hF := vIt c9 hF
    refine lv_tableIn (off := 41) (tgt := 45) hx hb d_Desk_change_4 (by rw [c9]; decide) (by rw [c9]; decide) (by rw [c9]; rfl) (by decide) ?_
    refine lv_aload_n hx hb d_Desk_change_45 rfl (lv_at hl 0 rfl) ?_
    refine lv_aload_n hx hb d_Desk_change_46 rfl (lv_at hl 1 rfl) ?_
    refine lv_iload_n hx hb d_Desk_change_47 rfl (lv_at hl 2 rfl) ?_
    obtain ⟨r12, σ10, q11, hF⟩ := vB2_some hF
    refine ed_cvI (As := [.ref (ad (pObj i1)), .int x2]) (rest := []) B hP hD hS hA (C_Desk_startTimer l D ad ca i1 x2 σ r12 σ10 h1 q11) me_Desk_startTimer mv_Desk_startTimer L_Desk_337 (ed_rc_Desk B hP (by decide)) ⟨rfl, rfl⟩ ⟨Nat.le_of_ble_eq_true rfl, Nat.le_of_ble_eq_true rfl⟩ rfl rfl hl.1 (lv_room (Nat.le_of_ble_eq_true rfl)) d_Desk_change_48 (fun H locs hP hD hS => ?_)
    exact ed_rI B hr hA hP hD hS (vP hF) d_Desk_change_51
  have hF := vIf c9 hF
  refine lv_tableOut (tgt := 52) hx hb d_Desk_change_4 (by have qc1 := lv_neT (a := 2) c1 (by decide); have qc5 := lv_neT (a := 3) c5 (by decide); have qc9 := lv_neT (a := 4) c9 (by decide); omega) (by decide) ?_
  refine lv_aload_n hx hb d_Desk_change_52 rfl (lv_at hl 0 rfl) ?_
  refine lv_aload_n hx hb d_Desk_change_53 rfl (lv_at hl 1 rfl) ?_
  refine lv_iload_n hx hb d_Desk_change_54 rfl (lv_at hl 2 rfl) ?_
  obtain ⟨r15, σ13, q14, hF⟩ := vB2_some hF
  refine ed_cvI (As := [.ref (ad (pObj i1)), .int x2]) (rest := []) B hP hD hS hA (C_Desk_turnTo l D ad ca i1 x2 σ r15 σ13 h1 q14) me_Desk_turnTo mv_Desk_turnTo L_Desk_340 (ed_rc_Desk B hP (by decide)) ⟨rfl, rfl⟩ ⟨Nat.le_of_ble_eq_true rfl, Nat.le_of_ble_eq_true rfl⟩ rfl rfl hl.1 (lv_room (Nat.le_of_ble_eq_true rfl)) d_Desk_change_55 (fun H locs hP hD hS => ?_)
  exact ed_rI B hr hA hP hD hS (vP hF) d_Desk_change_58
set_option maxHeartbeats 4000000 in
set_option maxRecDepth 100000 in
theorem C_Desk_change (l : Launch) (D : va_G) (ad : Nat → Nat) (ca : Nat → ClassId) (i1 : Nat) (x2 : Int32) (σ : ed_S) (r : Int32) (σ' : ed_S) (h1 : i1 < 16) (hF : F_Desk_change i1 x2 σ = some (r, σ')) : ed_MI l y_Desk_change ws_Desk_change rm_Desk_change D ca (ed_w ad ca) [.ref (ad (pDesk 0)), .ref (ad (pObj i1)), .int x2] σ r σ' := by
  refine ed_metI (cc := prog_1_method_38_code) (own := "ExecutiveDesk") (nL := 3) (ret := (some .int)) (by decide) rfl rfl (Nat.le_of_ble_eq_true rfl) ?_
  intro p e s m args below meth c A B hr hA
  exact T_Desk_change B hr hA i1 x2 σ h1 hF
abbrev ws_Desk_sett : List Cond := Cond.code y_Desk_sett prog_1_method_8_code 6 (some .int) :: ed_tb
abbrev rm_Desk_sett : Room := { frames := 6, cells := 0, slots := 0, locals := 136 }
def F_Desk_sett (x1 : Int32) (x2 : Int32) (σ : ed_S) : Option (Int32 × ed_S) := (if (σ 5 0 0) = (-1) then (some ((-3), σ)) else (vBr (F_Desk_processOfRunning  σ) 4 fun j4 σ2 => (vB2 (F_Proc_objectOf j4 x1 σ2) fun r8 σ6 => (if r8 = (-1) then (some ((-1), σ6)) else (vG r8 16 fun j10 => (vB2 (F_Desk_canBeSetTo (σ6 22 j10 0) x2 σ6) fun r16 σ14 => (if r16 = 0 then (some ((-1), σ14)) else (vB2 (F_Proc_lacks j4 x1 2 σ14) fun r20 σ18 => (if r20 = 0 then (vG r8 16 fun j22 => (vB2 (F_Desk_change j22 x2 σ18) fun r28 σ26 => (vB1 (F_Desk_lookWhoRuns  σ26) fun σ29 => (some (r28, σ29))))) else (some ((-5), σ18)))))))))))
set_option maxHeartbeats 4000000 in
set_option maxRecDepth 100000 in
theorem T_Desk_sett {r : Int32} {σ' : ed_S} (B : ed_B p s m args meth c prog_1_method_8_code "ExecutiveDesk" 6 D ca) (hr : meth.sig.returnType = (some .int)) (hA : ∀ q : Nat, s.heap.size ≤ q → A q) : ∀ (x1 : Int32) (x2 : Int32) (σ : ed_S), F_Desk_sett  x1 x2 σ = some (r, σ') → ed_G p l e rm_Desk_sett s m args below meth c D ca (ed_w ad ca) A (ed_QI D ca (ed_w ad ca) A below args s r σ') 6 0 [(0, .ref (ad (pDesk 0))), (1, .int x1), (2, .int x2)] [] σ := by
  have hx := B.1
  have hb := B.2.1
  intro x1 x2 σ  hF H locs ls hP hD hS hl
  have hF : (if (σ 5 0 0) = (-1) then (some ((-3), σ)) else (vBr (F_Desk_processOfRunning  σ) 4 fun j4 σ2 => (vB2 (F_Proc_objectOf j4 x1 σ2) fun r8 σ6 => (if r8 = (-1) then (some ((-1), σ6)) else (vG r8 16 fun j10 => (vB2 (F_Desk_canBeSetTo (σ6 22 j10 0) x2 σ6) fun r16 σ14 => (if r16 = 0 then (some ((-1), σ14)) else (vB2 (F_Proc_lacks j4 x1 2 σ14) fun r20 σ18 => (if r20 = 0 then (vG r8 16 fun j22 => (vB2 (F_Desk_change j22 x2 σ18) fun r28 σ26 => (vB1 (F_Desk_lookWhoRuns  σ26) fun σ29 => (some (r28, σ29))))) else (some ((-5), σ18))))))))))) = some (r, σ') := hF
  refine lv_aload_n hx hb d_Desk_sett_0 rfl (lv_at hl 0 rfl) ?_
  refine gf_Desk_scheduler B hP (by decide) L_Desk_18 d_Desk_sett_1 ?_
  refine gf_Sched_running B hP (by decide) L_Desk_92 d_Desk_sett_4 ?_
  refine lv_iconst (v := (-1)) hx hb d_Desk_sett_7 (by decide) ?_
  refine lv_icmp_ne (tgt := 14) hx hb d_Desk_sett_8 (by decide) (fun c1 => ?_) (fun c1 => ?_)
  · have hF := vIf c1 hF
    refine lv_aload_n hx hb d_Desk_sett_14 rfl (lv_at hl 0 rfl) ?_
    obtain ⟨j4, σ2, q3, hj5, hF⟩ := vBr_some hF
    refine ed_cvR (As := []) (rest := []) B hP hD hS hA (C_Desk_processOfRunning l D ad ca  σ j4 σ2  q3) me_Desk_processOfRunning mv_Desk_processOfRunning L_Desk_102 (ed_rc_Desk B hP (by decide)) ⟨rfl, rfl⟩ ⟨Nat.le_of_ble_eq_true rfl, Nat.le_of_ble_eq_true rfl⟩ rfl rfl hl.1 (lv_room (Nat.le_of_ble_eq_true rfl)) d_Desk_sett_15 (fun H locs hP hD hS => ?_)
    refine lv_astore_n (lv' := [(3, .ref (ad (pProc j4))), (0, .ref (ad (pDesk 0))), (1, .int x1), (2, .int x2)]) hx hb d_Desk_sett_18 rfl hl (by decide) rfl (fun ls hl => ?_)
    refine lv_aload_n hx hb d_Desk_sett_19 rfl (lv_at hl 0 rfl) ?_
    refine lv_iload_n hx hb d_Desk_sett_20 rfl (lv_at hl 2 rfl) ?_
    obtain ⟨r8, σ6, q7, hF⟩ := vB2_some hF
    refine ed_cvI (As := [.int x1]) (rest := []) B hP hD hS hA (C_Proc_objectOf l D ad ca j4 x1 σ2 r8 σ6 hj5 q7) me_Proc_objectOf mv_Proc_objectOf L_Desk_134 (ed_rc_Proc B hP hj5) ⟨rfl, rfl⟩ ⟨Nat.le_of_ble_eq_true rfl, Nat.le_of_ble_eq_true rfl⟩ rfl rfl hl.1 (lv_room (Nat.le_of_ble_eq_true rfl)) d_Desk_sett_21 (fun H locs hP hD hS => ?_)
    refine lv_istore (lv' := [(4, .int r8), (3, .ref (ad (pProc j4))), (0, .ref (ad (pDesk 0))), (1, .int x1), (2, .int x2)]) hx hb d_Desk_sett_24 hl (by decide) rfl (fun ls hl => ?_)
    refine lv_iload hx hb d_Desk_sett_26 (lv_at hl 0 rfl) ?_
    refine lv_iconst (v := (-1)) hx hb d_Desk_sett_28 (by decide) ?_
    refine lv_icmp_eq (tgt := 49) hx hb d_Desk_sett_29 (by decide) (fun c9 => ?_) (fun c9 => ?_)
    · have hF := vIt c9 hF
      refine lv_iconst (v := (-1)) hx hb d_Desk_sett_49 (by decide) ?_
      exact ed_rI B hr hA hP hD hS (vP hF) d_Desk_sett_50
    · have hF := vIf c9 hF
      refine lv_aload_n hx hb d_Desk_sett_32 rfl (lv_at hl 2 rfl) ?_
      refine gf_Desk_objects B hP (by decide) L_Desk_29 d_Desk_sett_33 ?_
      refine lv_iload hx hb d_Desk_sett_36 (lv_at hl 0 rfl) ?_
      obtain ⟨j10, ej11, hj12, hn13, hF⟩ := vG_some hF
      refine al_AObj B hP (by decide) hn13 ej11 hj12 d_Desk_sett_38 ?_
      refine gf_Obj_type B hP hj12 L_Desk_153 d_Desk_sett_39 ?_
      refine lv_iload_n hx hb d_Desk_sett_42 rfl (lv_at hl 4 rfl) ?_
      obtain ⟨r16, σ14, q15, hF⟩ := vB2_some hF
      refine ed_csI (As := [.int (σ6 22 j10 0), .int x2]) (rest := []) B hP hD hS hA (C_Desk_canBeSetTo l D ad ca (σ6 22 j10 0) x2 σ6 r16 σ14  q15) me_Desk_canBeSetTo st_Desk_canBeSetTo L_Desk_156 ⟨rfl, rfl⟩ ⟨Nat.le_of_ble_eq_true rfl, Nat.le_of_ble_eq_true rfl⟩ rfl rfl hl.1 (lv_room (Nat.le_of_ble_eq_true rfl)) d_Desk_sett_43 (fun H locs hP hD hS => ?_)
      refine lv_if_ne (tgt := 51) hx hb d_Desk_sett_46 (by decide) (fun c17 => ?_) (fun c17 => ?_)
      · have hF := vIf c17 hF
        refine lv_aload_n hx hb d_Desk_sett_51 rfl (lv_at hl 1 rfl) ?_
        refine lv_iload_n hx hb d_Desk_sett_52 rfl (lv_at hl 3 rfl) ?_
        refine lv_iconst (v := 2) hx hb d_Desk_sett_53 (by decide) ?_
        obtain ⟨r20, σ18, q19, hF⟩ := vB2_some hF
        refine ed_cvI (As := [.int x1, .int 2]) (rest := []) B hP hD hS hA (C_Proc_lacks l D ad ca j4 x1 2 σ14 r20 σ18 hj5 q19) me_Proc_lacks mv_Proc_lacks L_Desk_144 (ed_rc_Proc B hP hj5) ⟨rfl, rfl⟩ ⟨Nat.le_of_ble_eq_true rfl, Nat.le_of_ble_eq_true rfl⟩ rfl rfl hl.1 (lv_room (Nat.le_of_ble_eq_true rfl)) d_Desk_sett_54 (fun H locs hP hD hS => ?_)
        refine lv_if_eq (tgt := 63) hx hb d_Desk_sett_57 (by decide) (fun c21 => ?_) (fun c21 => ?_)
        · have hF := vIt c21 hF
          refine lv_aload_n hx hb d_Desk_sett_63 rfl (lv_at hl 2 rfl) ?_
          refine lv_aload_n hx hb d_Desk_sett_64 rfl (lv_at hl 2 rfl) ?_
          refine gf_Desk_objects B hP (by decide) L_Desk_29 d_Desk_sett_65 ?_
          refine lv_iload hx hb d_Desk_sett_68 (lv_at hl 0 rfl) ?_
          obtain ⟨j22, ej23, hj24, hn25, hF⟩ := vG_some hF
          refine al_AObj B hP (by decide) hn25 ej23 hj24 d_Desk_sett_70 ?_
          refine lv_iload_n hx hb d_Desk_sett_71 rfl (lv_at hl 4 rfl) ?_
          obtain ⟨r28, σ26, q27, hF⟩ := vB2_some hF
          refine ed_cvI (As := [.ref (ad (pObj j22)), .int x2]) (rest := []) B hP hD hS hA (C_Desk_change l D ad ca j22 x2 σ18 r28 σ26 hj24 q27) me_Desk_change mv_Desk_change L_Desk_159 (ed_rc_Desk B hP (by decide)) ⟨rfl, rfl⟩ ⟨Nat.le_of_ble_eq_true rfl, Nat.le_of_ble_eq_true rfl⟩ rfl rfl hl.1 (lv_room (Nat.le_of_ble_eq_true rfl)) d_Desk_sett_72 (fun H locs hP hD hS => ?_)
          refine lv_istore (lv' := [(5, .int r28), (4, .int r8), (3, .ref (ad (pProc j4))), (0, .ref (ad (pDesk 0))), (1, .int x1), (2, .int x2)]) hx hb d_Desk_sett_75 hl (by decide) rfl (fun ls hl => ?_)
          refine lv_aload_n hx hb d_Desk_sett_77 rfl (lv_at hl 3 rfl) ?_
          obtain ⟨σ29, q30, hF⟩ := vB1_some hF
          refine ed_cvV (As := []) (rest := []) B hP hD hS hA (C_Desk_lookWhoRuns l D ad ca  σ26 σ29  q30) me_Desk_lookWhoRuns mv_Desk_lookWhoRuns L_Desk_89 (ed_rc_Desk B hP (by decide)) ⟨rfl, rfl⟩ ⟨Nat.le_of_ble_eq_true rfl, Nat.le_of_ble_eq_true rfl⟩ rfl rfl hl.1 (lv_room (Nat.le_of_ble_eq_true rfl)) d_Desk_sett_78 (fun H locs hP hD hS => ?_)
          refine lv_iload hx hb d_Desk_sett_81 (lv_at hl 0 rfl) ?_
          exact ed_rI B hr hA hP hD hS (vP hF) d_Desk_sett_83
        · have hF := vIf c21 hF
          refine lv_bipush (v := (-5)) hx hb d_Desk_sett_60 (by decide) ?_
          exact ed_rI B hr hA hP hD hS (vP hF) d_Desk_sett_62
      · have hF := vIt c17 hF
        refine lv_iconst (v := (-1)) hx hb d_Desk_sett_49 (by decide) ?_
        exact ed_rI B hr hA hP hD hS (vP hF) d_Desk_sett_50
  · have hF := vIt c1 hF
    refine lv_bipush (v := (-3)) hx hb d_Desk_sett_11 (by decide) ?_
    exact ed_rI B hr hA hP hD hS (vP hF) d_Desk_sett_13
set_option maxHeartbeats 4000000 in
set_option maxRecDepth 100000 in
theorem C_Desk_sett (l : Launch) (D : va_G) (ad : Nat → Nat) (ca : Nat → ClassId) (x1 : Int32) (x2 : Int32) (σ : ed_S) (r : Int32) (σ' : ed_S) (hF : F_Desk_sett x1 x2 σ = some (r, σ')) : ed_MI l y_Desk_sett ws_Desk_sett rm_Desk_sett D ca (ed_w ad ca) [.ref (ad (pDesk 0)), .int x1, .int x2] σ r σ' := by
  refine ed_metI (cc := prog_1_method_8_code) (own := "ExecutiveDesk") (nL := 6) (ret := (some .int)) (by decide) rfl rfl (Nat.le_of_ble_eq_true rfl) ?_
  intro p e s m args below meth c A B hr hA
  exact T_Desk_sett B hr hA x1 x2 σ  hF
abbrev ws_Desk_isOfType : List Cond := Cond.code y_Desk_isOfType prog_1_method_28_code 4 (some .boolean) :: ed_tb
abbrev rm_Desk_isOfType : Room := { frames := 1, cells := 0, slots := 0, locals := 22 }
def F_Desk_isOfType (x1 : Int32) (x2 : Int32) (x3 : Int32) (σ : ed_S) : Option (Int32 × ed_S) := (if x1 = (-1) then (some (0, σ)) else (vG x1 16 fun j2 => (vB2 (F_Desk_isWithin (σ 22 j2 0) x2 x3 σ) fun r8 σ6 => (if r8 = 0 then (some (0, σ6)) else (some (1, σ6))))))
set_option maxHeartbeats 4000000 in
set_option maxRecDepth 100000 in
theorem T_Desk_isOfType {r : Int32} {σ' : ed_S} (B : ed_B p s m args meth c prog_1_method_28_code "ExecutiveDesk" 4 D ca) (hr : meth.sig.returnType = (some .boolean)) (hA : ∀ q : Nat, s.heap.size ≤ q → A q) : ∀ (x1 : Int32) (x2 : Int32) (x3 : Int32) (σ : ed_S), F_Desk_isOfType  x1 x2 x3 σ = some (r, σ') → ed_G p l e rm_Desk_isOfType s m args below meth c D ca (ed_w ad ca) A (ed_QI D ca (ed_w ad ca) A below args s r σ') 4 0 [(0, .ref (ad (pDesk 0))), (1, .int x1), (2, .int x2), (3, .int x3)] [] σ := by
  have hx := B.1
  have hb := B.2.1
  intro x1 x2 x3 σ  hF H locs ls hP hD hS hl
  have hF : (if x1 = (-1) then (some (0, σ)) else (vG x1 16 fun j2 => (vB2 (F_Desk_isWithin (σ 22 j2 0) x2 x3 σ) fun r8 σ6 => (if r8 = 0 then (some (0, σ6)) else (some (1, σ6)))))) = some (r, σ') := hF
  refine lv_iload_n hx hb d_Desk_isOfType_0 rfl (lv_at hl 1 rfl) ?_
  refine lv_iconst (v := (-1)) hx hb d_Desk_isOfType_1 (by decide) ?_
  refine lv_icmp_eq (tgt := 26) hx hb d_Desk_isOfType_2 (by decide) (fun c1 => ?_) (fun c1 => ?_)
  · have hF := vIt c1 hF
    refine lv_iconst (v := 0) hx hb d_Desk_isOfType_26 (by decide) ?_
    exact ed_rZ B hr hA hP hD hS (by decide) (vP hF) d_Desk_isOfType_27
  · have hF := vIf c1 hF
    refine lv_aload_n hx hb d_Desk_isOfType_5 rfl (lv_at hl 0 rfl) ?_
    refine gf_Desk_objects B hP (by decide) L_Desk_29 d_Desk_isOfType_6 ?_
    refine lv_iload_n hx hb d_Desk_isOfType_9 rfl (lv_at hl 1 rfl) ?_
    obtain ⟨j2, ej3, hj4, hn5, hF⟩ := vG_some hF
    refine al_AObj B hP (by decide) hn5 ej3 hj4 d_Desk_isOfType_10 ?_
    refine gf_Obj_type B hP hj4 L_Desk_153 d_Desk_isOfType_11 ?_
    refine lv_iload_n hx hb d_Desk_isOfType_14 rfl (lv_at hl 2 rfl) ?_
    refine lv_iload_n hx hb d_Desk_isOfType_15 rfl (lv_at hl 3 rfl) ?_
    obtain ⟨r8, σ6, q7, hF⟩ := vB2_some hF
    refine ed_csI (As := [.int (σ 22 j2 0), .int x2, .int x3]) (rest := []) B hP hD hS hA (C_Desk_isWithin l D ad ca (σ 22 j2 0) x2 x3 σ r8 σ6  q7) me_Desk_isWithin st_Desk_isWithin L_Desk_54 ⟨rfl, rfl⟩ ⟨Nat.le_of_ble_eq_true rfl, Nat.le_of_ble_eq_true rfl⟩ rfl rfl hl.1 (lv_room (Nat.le_of_ble_eq_true rfl)) d_Desk_isOfType_16 (fun H locs hP hD hS => ?_)
    refine lv_if_eq (tgt := 26) hx hb d_Desk_isOfType_19 (by decide) (fun c9 => ?_) (fun c9 => ?_)
    · have hF := vIt c9 hF
      refine lv_iconst (v := 0) hx hb d_Desk_isOfType_26 (by decide) ?_
      exact ed_rZ B hr hA hP hD hS (by decide) (vP hF) d_Desk_isOfType_27
    · have hF := vIf c9 hF
      refine lv_iconst (v := 1) hx hb d_Desk_isOfType_22 (by decide) ?_
      refine lv_goto (tgt := 27) hx hb d_Desk_isOfType_23 (by decide) ?_
      exact ed_rZ B hr hA hP hD hS (by decide) (vP hF) d_Desk_isOfType_27
set_option maxHeartbeats 4000000 in
set_option maxRecDepth 100000 in
theorem C_Desk_isOfType (l : Launch) (D : va_G) (ad : Nat → Nat) (ca : Nat → ClassId) (x1 : Int32) (x2 : Int32) (x3 : Int32) (σ : ed_S) (r : Int32) (σ' : ed_S) (hF : F_Desk_isOfType x1 x2 x3 σ = some (r, σ')) : ed_MI l y_Desk_isOfType ws_Desk_isOfType rm_Desk_isOfType D ca (ed_w ad ca) [.ref (ad (pDesk 0)), .int x1, .int x2, .int x3] σ r σ' := by
  refine ed_metI (cc := prog_1_method_28_code) (own := "ExecutiveDesk") (nL := 4) (ret := (some .boolean)) (by decide) rfl rfl (Nat.le_of_ble_eq_true rfl) ?_
  intro p e s m args below meth c A B hr hA
  exact T_Desk_isOfType B hr hA x1 x2 x3 σ  hF
abbrev ws_Desk_canBeAwaited : List Cond := Cond.code y_Desk_canBeAwaited prog_1_method_43_code 8 (some .boolean) :: ed_tb
abbrev rm_Desk_canBeAwaited : Room := { frames := 2, cells := 0, slots := 0, locals := 45 }
def F_Desk_canBeAwaited_53 (i1 : Nat) (x2 : Int32) (x3 : Int32) (x4 : Int32) (x5 : Int32) (x6 : Int32) (x7 : Int32) (σ : ed_S) : Option (Int32 × ed_S) := (vB2 (F_Desk_isOfType x5 5 5 σ) fun r3 σ1 => (if r3 = 0 then (vB2 (F_Desk_isOfType x6 5 5 σ1) fun r7 σ5 => (if r7 = 0 then (vB2 (F_Desk_isOfType x7 5 5 σ5) fun r11 σ9 => (if r11 = 0 then (if x5 = x6 then (some (0, σ9)) else (if x5 = x7 then (some (0, σ9)) else (if x6 = (-1) then (some (1, σ9)) else (if x6 = x7 then (some (0, σ9)) else (some (1, σ9)))))) else (some (0, σ9)))) else (some (0, σ5)))) else (some (0, σ1))))
def F_Desk_canBeAwaited (i1 : Nat) (x2 : Int32) (x3 : Int32) (x4 : Int32) (σ : ed_S) : Option (Int32 × ed_S) := (vB2 (F_Proc_objectOf i1 x2 σ) fun r3 σ1 => (vB2 (F_Proc_objectOf i1 x3 σ1) fun r6 σ4 => (vB2 (F_Proc_objectOf i1 x4 σ4) fun r9 σ7 => (if r3 = (-1) then (some (0, σ7)) else (if r6 = (-1) then (if x3 = (-1) then (if r9 = (-1) then (if x4 = (-1) then (F_Desk_canBeAwaited_53  i1 x2 x3 x4 r3 r6 r9 σ7) else (some (0, σ7))) else (F_Desk_canBeAwaited_53  i1 x2 x3 x4 r3 r6 r9 σ7)) else (some (0, σ7))) else (if r9 = (-1) then (if x4 = (-1) then (F_Desk_canBeAwaited_53  i1 x2 x3 x4 r3 r6 r9 σ7) else (some (0, σ7))) else (F_Desk_canBeAwaited_53  i1 x2 x3 x4 r3 r6 r9 σ7)))))))
set_option maxHeartbeats 4000000 in
set_option maxRecDepth 100000 in
theorem T_Desk_canBeAwaited_53 {r : Int32} {σ' : ed_S} (B : ed_B p s m args meth c prog_1_method_43_code "ExecutiveDesk" 8 D ca) (hr : meth.sig.returnType = (some .boolean)) (hA : ∀ q : Nat, s.heap.size ≤ q → A q) : ∀ (i1 : Nat) (x2 : Int32) (x3 : Int32) (x4 : Int32) (x5 : Int32) (x6 : Int32) (x7 : Int32) (σ : ed_S), i1 < 4 → F_Desk_canBeAwaited_53  i1 x2 x3 x4 x5 x6 x7 σ = some (r, σ') → ed_G p l e rm_Desk_canBeAwaited s m args below meth c D ca (ed_w ad ca) A (ed_QI D ca (ed_w ad ca) A below args s r σ') 8 53 [(0, .ref (ad (pDesk 0))), (1, .ref (ad (pProc i1))), (2, .int x2), (3, .int x3), (4, .int x4), (5, .int x5), (6, .int x6), (7, .int x7)] [] σ := by
  have hx := B.1
  have hb := B.2.1
  intro i1 x2 x3 x4 x5 x6 x7 σ h1 hF H locs ls hP hD hS hl
  have hF : (vB2 (F_Desk_isOfType x5 5 5 σ) fun r3 σ1 => (if r3 = 0 then (vB2 (F_Desk_isOfType x6 5 5 σ1) fun r7 σ5 => (if r7 = 0 then (vB2 (F_Desk_isOfType x7 5 5 σ5) fun r11 σ9 => (if r11 = 0 then (if x5 = x6 then (some (0, σ9)) else (if x5 = x7 then (some (0, σ9)) else (if x6 = (-1) then (some (1, σ9)) else (if x6 = x7 then (some (0, σ9)) else (some (1, σ9)))))) else (some (0, σ9)))) else (some (0, σ5)))) else (some (0, σ1)))) = some (r, σ') := hF
  refine lv_aload_n hx hb d_Desk_canBeAwaited_53 rfl (lv_at hl 0 rfl) ?_
  refine lv_iload hx hb d_Desk_canBeAwaited_54 (lv_at hl 5 rfl) ?_
  refine lv_iconst (v := 5) hx hb d_Desk_canBeAwaited_56 (by decide) ?_
  refine lv_iconst (v := 5) hx hb d_Desk_canBeAwaited_57 (by decide) ?_
  obtain ⟨r3, σ1, q2, hF⟩ := vB2_some hF
  refine ed_cvI (As := [.int x5, .int 5, .int 5]) (rest := []) B hP hD hS hA (C_Desk_isOfType l D ad ca x5 5 5 σ r3 σ1  q2) me_Desk_isOfType mv_Desk_isOfType L_Desk_215 (ed_rc_Desk B hP (by decide)) ⟨rfl, rfl⟩ ⟨Nat.le_of_ble_eq_true rfl, Nat.le_of_ble_eq_true rfl⟩ rfl rfl hl.1 (lv_room (Nat.le_of_ble_eq_true rfl)) d_Desk_canBeAwaited_58 (fun H locs hP hD hS => ?_)
  refine lv_if_ne (tgt := 86) hx hb d_Desk_canBeAwaited_61 (by decide) (fun c4 => ?_) (fun c4 => ?_)
  · have hF := vIf c4 hF
    refine lv_iconst (v := 0) hx hb d_Desk_canBeAwaited_86 (by decide) ?_
    exact ed_rZ B hr hA hP hD hS (by decide) (vP hF) d_Desk_canBeAwaited_87
  · have hF := vIt c4 hF
    refine lv_aload_n hx hb d_Desk_canBeAwaited_64 rfl (lv_at hl 0 rfl) ?_
    refine lv_iload hx hb d_Desk_canBeAwaited_65 (lv_at hl 6 rfl) ?_
    refine lv_iconst (v := 5) hx hb d_Desk_canBeAwaited_67 (by decide) ?_
    refine lv_iconst (v := 5) hx hb d_Desk_canBeAwaited_68 (by decide) ?_
    obtain ⟨r7, σ5, q6, hF⟩ := vB2_some hF
    refine ed_cvI (As := [.int x6, .int 5, .int 5]) (rest := []) B hP hD hS hA (C_Desk_isOfType l D ad ca x6 5 5 σ1 r7 σ5  q6) me_Desk_isOfType mv_Desk_isOfType L_Desk_215 (ed_rc_Desk B hP (by decide)) ⟨rfl, rfl⟩ ⟨Nat.le_of_ble_eq_true rfl, Nat.le_of_ble_eq_true rfl⟩ rfl rfl hl.1 (lv_room (Nat.le_of_ble_eq_true rfl)) d_Desk_canBeAwaited_69 (fun H locs hP hD hS => ?_)
    refine lv_if_ne (tgt := 86) hx hb d_Desk_canBeAwaited_72 (by decide) (fun c8 => ?_) (fun c8 => ?_)
    · have hF := vIf c8 hF
      refine lv_iconst (v := 0) hx hb d_Desk_canBeAwaited_86 (by decide) ?_
      exact ed_rZ B hr hA hP hD hS (by decide) (vP hF) d_Desk_canBeAwaited_87
    · have hF := vIt c8 hF
      refine lv_aload_n hx hb d_Desk_canBeAwaited_75 rfl (lv_at hl 0 rfl) ?_
      refine lv_iload hx hb d_Desk_canBeAwaited_76 (lv_at hl 7 rfl) ?_
      refine lv_iconst (v := 5) hx hb d_Desk_canBeAwaited_78 (by decide) ?_
      refine lv_iconst (v := 5) hx hb d_Desk_canBeAwaited_79 (by decide) ?_
      obtain ⟨r11, σ9, q10, hF⟩ := vB2_some hF
      refine ed_cvI (As := [.int x7, .int 5, .int 5]) (rest := []) B hP hD hS hA (C_Desk_isOfType l D ad ca x7 5 5 σ5 r11 σ9  q10) me_Desk_isOfType mv_Desk_isOfType L_Desk_215 (ed_rc_Desk B hP (by decide)) ⟨rfl, rfl⟩ ⟨Nat.le_of_ble_eq_true rfl, Nat.le_of_ble_eq_true rfl⟩ rfl rfl hl.1 (lv_room (Nat.le_of_ble_eq_true rfl)) d_Desk_canBeAwaited_80 (fun H locs hP hD hS => ?_)
      refine lv_if_eq (tgt := 88) hx hb d_Desk_canBeAwaited_83 (by decide) (fun c12 => ?_) (fun c12 => ?_)
      · have hF := vIt c12 hF
        refine lv_iload hx hb d_Desk_canBeAwaited_88 (lv_at hl 5 rfl) ?_
        refine lv_iload hx hb d_Desk_canBeAwaited_90 (lv_at hl 6 rfl) ?_
        refine lv_icmp_eq (tgt := 119) hx hb d_Desk_canBeAwaited_92 (by decide) (fun c13 => ?_) (fun c13 => ?_)
        · have hF := vIt c13 hF
          refine lv_iconst (v := 0) hx hb d_Desk_canBeAwaited_119 (by decide) ?_
          exact ed_rZ B hr hA hP hD hS (by decide) (vP hF) d_Desk_canBeAwaited_120
        · have hF := vIf c13 hF
          refine lv_iload hx hb d_Desk_canBeAwaited_95 (lv_at hl 5 rfl) ?_
          refine lv_iload hx hb d_Desk_canBeAwaited_97 (lv_at hl 7 rfl) ?_
          refine lv_icmp_eq (tgt := 119) hx hb d_Desk_canBeAwaited_99 (by decide) (fun c14 => ?_) (fun c14 => ?_)
          · have hF := vIt c14 hF
            refine lv_iconst (v := 0) hx hb d_Desk_canBeAwaited_119 (by decide) ?_
            exact ed_rZ B hr hA hP hD hS (by decide) (vP hF) d_Desk_canBeAwaited_120
          · have hF := vIf c14 hF
            refine lv_iload hx hb d_Desk_canBeAwaited_102 (lv_at hl 6 rfl) ?_
            refine lv_iconst (v := (-1)) hx hb d_Desk_canBeAwaited_104 (by decide) ?_
            refine lv_icmp_eq (tgt := 115) hx hb d_Desk_canBeAwaited_105 (by decide) (fun c15 => ?_) (fun c15 => ?_)
            · have hF := vIt c15 hF
              refine lv_iconst (v := 1) hx hb d_Desk_canBeAwaited_115 (by decide) ?_
              refine lv_goto (tgt := 120) hx hb d_Desk_canBeAwaited_116 (by decide) ?_
              exact ed_rZ B hr hA hP hD hS (by decide) (vP hF) d_Desk_canBeAwaited_120
            · have hF := vIf c15 hF
              refine lv_iload hx hb d_Desk_canBeAwaited_108 (lv_at hl 6 rfl) ?_
              refine lv_iload hx hb d_Desk_canBeAwaited_110 (lv_at hl 7 rfl) ?_
              refine lv_icmp_eq (tgt := 119) hx hb d_Desk_canBeAwaited_112 (by decide) (fun c16 => ?_) (fun c16 => ?_)
              · have hF := vIt c16 hF
                refine lv_iconst (v := 0) hx hb d_Desk_canBeAwaited_119 (by decide) ?_
                exact ed_rZ B hr hA hP hD hS (by decide) (vP hF) d_Desk_canBeAwaited_120
              · have hF := vIf c16 hF
                refine lv_iconst (v := 1) hx hb d_Desk_canBeAwaited_115 (by decide) ?_
                refine lv_goto (tgt := 120) hx hb d_Desk_canBeAwaited_116 (by decide) ?_
                exact ed_rZ B hr hA hP hD hS (by decide) (vP hF) d_Desk_canBeAwaited_120
      · have hF := vIf c12 hF
        refine lv_iconst (v := 0) hx hb d_Desk_canBeAwaited_86 (by decide) ?_
        exact ed_rZ B hr hA hP hD hS (by decide) (vP hF) d_Desk_canBeAwaited_87
set_option maxHeartbeats 4000000 in
set_option maxRecDepth 100000 in
theorem T_Desk_canBeAwaited {r : Int32} {σ' : ed_S} (B : ed_B p s m args meth c prog_1_method_43_code "ExecutiveDesk" 8 D ca) (hr : meth.sig.returnType = (some .boolean)) (hA : ∀ q : Nat, s.heap.size ≤ q → A q) : ∀ (i1 : Nat) (x2 : Int32) (x3 : Int32) (x4 : Int32) (σ : ed_S), i1 < 4 → F_Desk_canBeAwaited  i1 x2 x3 x4 σ = some (r, σ') → ed_G p l e rm_Desk_canBeAwaited s m args below meth c D ca (ed_w ad ca) A (ed_QI D ca (ed_w ad ca) A below args s r σ') 8 0 [(0, .ref (ad (pDesk 0))), (1, .ref (ad (pProc i1))), (2, .int x2), (3, .int x3), (4, .int x4)] [] σ := by
  have hx := B.1
  have hb := B.2.1
  intro i1 x2 x3 x4 σ h1 hF H locs ls hP hD hS hl
  have hF : (vB2 (F_Proc_objectOf i1 x2 σ) fun r3 σ1 => (vB2 (F_Proc_objectOf i1 x3 σ1) fun r6 σ4 => (vB2 (F_Proc_objectOf i1 x4 σ4) fun r9 σ7 => (if r3 = (-1) then (some (0, σ7)) else (if r6 = (-1) then (if x3 = (-1) then (if r9 = (-1) then (if x4 = (-1) then (F_Desk_canBeAwaited_53  i1 x2 x3 x4 r3 r6 r9 σ7) else (some (0, σ7))) else (F_Desk_canBeAwaited_53  i1 x2 x3 x4 r3 r6 r9 σ7)) else (some (0, σ7))) else (if r9 = (-1) then (if x4 = (-1) then (F_Desk_canBeAwaited_53  i1 x2 x3 x4 r3 r6 r9 σ7) else (some (0, σ7))) else (F_Desk_canBeAwaited_53  i1 x2 x3 x4 r3 r6 r9 σ7))))))) = some (r, σ') := hF
  refine lv_aload_n hx hb d_Desk_canBeAwaited_0 rfl (lv_at hl 1 rfl) ?_
  refine lv_iload_n hx hb d_Desk_canBeAwaited_1 rfl (lv_at hl 2 rfl) ?_
  obtain ⟨r3, σ1, q2, hF⟩ := vB2_some hF
  refine ed_cvI (As := [.int x2]) (rest := []) B hP hD hS hA (C_Proc_objectOf l D ad ca i1 x2 σ r3 σ1 h1 q2) me_Proc_objectOf mv_Proc_objectOf L_Desk_134 (ed_rc_Proc B hP h1) ⟨rfl, rfl⟩ ⟨Nat.le_of_ble_eq_true rfl, Nat.le_of_ble_eq_true rfl⟩ rfl rfl hl.1 (lv_room (Nat.le_of_ble_eq_true rfl)) d_Desk_canBeAwaited_2 (fun H locs hP hD hS => ?_)
  refine lv_istore (lv' := [(5, .int r3), (0, .ref (ad (pDesk 0))), (1, .ref (ad (pProc i1))), (2, .int x2), (3, .int x3), (4, .int x4)]) hx hb d_Desk_canBeAwaited_5 hl (by decide) rfl (fun ls hl => ?_)
  refine lv_aload_n hx hb d_Desk_canBeAwaited_7 rfl (lv_at hl 2 rfl) ?_
  refine lv_iload_n hx hb d_Desk_canBeAwaited_8 rfl (lv_at hl 4 rfl) ?_
  obtain ⟨r6, σ4, q5, hF⟩ := vB2_some hF
  refine ed_cvI (As := [.int x3]) (rest := []) B hP hD hS hA (C_Proc_objectOf l D ad ca i1 x3 σ1 r6 σ4 h1 q5) me_Proc_objectOf mv_Proc_objectOf L_Desk_134 (ed_rc_Proc B hP h1) ⟨rfl, rfl⟩ ⟨Nat.le_of_ble_eq_true rfl, Nat.le_of_ble_eq_true rfl⟩ rfl rfl hl.1 (lv_room (Nat.le_of_ble_eq_true rfl)) d_Desk_canBeAwaited_9 (fun H locs hP hD hS => ?_)
  refine lv_istore (lv' := [(6, .int r6), (5, .int r3), (0, .ref (ad (pDesk 0))), (1, .ref (ad (pProc i1))), (2, .int x2), (3, .int x3), (4, .int x4)]) hx hb d_Desk_canBeAwaited_12 hl (by decide) rfl (fun ls hl => ?_)
  refine lv_aload_n hx hb d_Desk_canBeAwaited_14 rfl (lv_at hl 3 rfl) ?_
  refine lv_iload hx hb d_Desk_canBeAwaited_15 (lv_at hl 6 rfl) ?_
  obtain ⟨r9, σ7, q8, hF⟩ := vB2_some hF
  refine ed_cvI (As := [.int x4]) (rest := []) B hP hD hS hA (C_Proc_objectOf l D ad ca i1 x4 σ4 r9 σ7 h1 q8) me_Proc_objectOf mv_Proc_objectOf L_Desk_134 (ed_rc_Proc B hP h1) ⟨rfl, rfl⟩ ⟨Nat.le_of_ble_eq_true rfl, Nat.le_of_ble_eq_true rfl⟩ rfl rfl hl.1 (lv_room (Nat.le_of_ble_eq_true rfl)) d_Desk_canBeAwaited_17 (fun H locs hP hD hS => ?_)
  refine lv_istore (lv' := [(7, .int r9), (6, .int r6), (5, .int r3), (0, .ref (ad (pDesk 0))), (1, .ref (ad (pProc i1))), (2, .int x2), (3, .int x3), (4, .int x4)]) hx hb d_Desk_canBeAwaited_20 hl (by decide) rfl (fun ls hl => ?_)
  refine lv_iload hx hb d_Desk_canBeAwaited_22 (lv_at hl 2 rfl) ?_
  refine lv_iconst (v := (-1)) hx hb d_Desk_canBeAwaited_24 (by decide) ?_
  refine lv_icmp_eq (tgt := 51) hx hb d_Desk_canBeAwaited_25 (by decide) (fun c10 => ?_) (fun c10 => ?_)
  · have hF := vIt c10 hF
    refine lv_iconst (v := 0) hx hb d_Desk_canBeAwaited_51 (by decide) ?_
    exact ed_rZ B hr hA hP hD hS (by decide) (vP hF) d_Desk_canBeAwaited_52
  · have hF := vIf c10 hF
    refine lv_iload hx hb d_Desk_canBeAwaited_28 (lv_at hl 1 rfl) ?_
    refine lv_iconst (v := (-1)) hx hb d_Desk_canBeAwaited_30 (by decide) ?_
    refine lv_icmp_ne (tgt := 39) hx hb d_Desk_canBeAwaited_31 (by decide) (fun c11 => ?_) (fun c11 => ?_)
    · have hF := vIf c11 hF
      refine lv_iload hx hb d_Desk_canBeAwaited_39 (lv_at hl 0 rfl) ?_
      refine lv_iconst (v := (-1)) hx hb d_Desk_canBeAwaited_41 (by decide) ?_
      refine lv_icmp_ne (tgt := 53) hx hb d_Desk_canBeAwaited_42 (by decide) (fun c12 => ?_) (fun c12 => ?_)
      · have hF := vIf c12 hF
        exact T_Desk_canBeAwaited_53 B hr hA  i1 x2 x3 x4 r3 r6 r9 σ7 h1 hF _ _ _ hP hD hS (lv_sub hl [3, 4, 5, 6, 7, 2, 1, 0] rfl)
      · have hF := vIt c12 hF
        refine lv_iload hx hb d_Desk_canBeAwaited_45 (lv_at hl 7 rfl) ?_
        refine lv_iconst (v := (-1)) hx hb d_Desk_canBeAwaited_47 (by decide) ?_
        refine lv_icmp_eq (tgt := 53) hx hb d_Desk_canBeAwaited_48 (by decide) (fun c13 => ?_) (fun c13 => ?_)
        · have hF := vIt c13 hF
          exact T_Desk_canBeAwaited_53 B hr hA  i1 x2 x3 x4 r3 r6 r9 σ7 h1 hF _ _ _ hP hD hS (lv_sub hl [3, 4, 5, 6, 7, 2, 1, 0] rfl)
        · have hF := vIf c13 hF
          refine lv_iconst (v := 0) hx hb d_Desk_canBeAwaited_51 (by decide) ?_
          exact ed_rZ B hr hA hP hD hS (by decide) (vP hF) d_Desk_canBeAwaited_52
    · have hF := vIt c11 hF
      refine lv_iload_n hx hb d_Desk_canBeAwaited_34 rfl (lv_at hl 6 rfl) ?_
      refine lv_iconst (v := (-1)) hx hb d_Desk_canBeAwaited_35 (by decide) ?_
      refine lv_icmp_ne (tgt := 51) hx hb d_Desk_canBeAwaited_36 (by decide) (fun c14 => ?_) (fun c14 => ?_)
      · have hF := vIf c14 hF
        refine lv_iconst (v := 0) hx hb d_Desk_canBeAwaited_51 (by decide) ?_
        exact ed_rZ B hr hA hP hD hS (by decide) (vP hF) d_Desk_canBeAwaited_52
      · have hF := vIt c14 hF
        refine lv_iload hx hb d_Desk_canBeAwaited_39 (lv_at hl 0 rfl) ?_
        refine lv_iconst (v := (-1)) hx hb d_Desk_canBeAwaited_41 (by decide) ?_
        refine lv_icmp_ne (tgt := 53) hx hb d_Desk_canBeAwaited_42 (by decide) (fun c15 => ?_) (fun c15 => ?_)
        · have hF := vIf c15 hF
          exact T_Desk_canBeAwaited_53 B hr hA  i1 x2 x3 x4 r3 r6 r9 σ7 h1 hF _ _ _ hP hD hS (lv_sub hl [3, 4, 5, 6, 7, 2, 1, 0] rfl)
        · have hF := vIt c15 hF
          refine lv_iload hx hb d_Desk_canBeAwaited_45 (lv_at hl 7 rfl) ?_
          refine lv_iconst (v := (-1)) hx hb d_Desk_canBeAwaited_47 (by decide) ?_
          refine lv_icmp_eq (tgt := 53) hx hb d_Desk_canBeAwaited_48 (by decide) (fun c16 => ?_) (fun c16 => ?_)
          · have hF := vIt c16 hF
            exact T_Desk_canBeAwaited_53 B hr hA  i1 x2 x3 x4 r3 r6 r9 σ7 h1 hF _ _ _ hP hD hS (lv_sub hl [3, 4, 5, 6, 7, 2, 1, 0] rfl)
          · have hF := vIf c16 hF
            refine lv_iconst (v := 0) hx hb d_Desk_canBeAwaited_51 (by decide) ?_
            exact ed_rZ B hr hA hP hD hS (by decide) (vP hF) d_Desk_canBeAwaited_52
set_option maxHeartbeats 4000000 in
set_option maxRecDepth 100000 in
theorem C_Desk_canBeAwaited (l : Launch) (D : va_G) (ad : Nat → Nat) (ca : Nat → ClassId) (i1 : Nat) (x2 : Int32) (x3 : Int32) (x4 : Int32) (σ : ed_S) (r : Int32) (σ' : ed_S) (h1 : i1 < 4) (hF : F_Desk_canBeAwaited i1 x2 x3 x4 σ = some (r, σ')) : ed_MI l y_Desk_canBeAwaited ws_Desk_canBeAwaited rm_Desk_canBeAwaited D ca (ed_w ad ca) [.ref (ad (pDesk 0)), .ref (ad (pProc i1)), .int x2, .int x3, .int x4] σ r σ' := by
  refine ed_metI (cc := prog_1_method_43_code) (own := "ExecutiveDesk") (nL := 8) (ret := (some .boolean)) (by decide) rfl rfl (Nat.le_of_ble_eq_true rfl) ?_
  intro p e s m args below meth c A B hr hA
  exact T_Desk_canBeAwaited B hr hA i1 x2 x3 x4 σ h1 hF
abbrev ws_Thr_wish : List Cond := Cond.code y_Thr_wish prog_7_method_2_code 5 none :: ed_tb
abbrev rm_Thr_wish : Room := { frames := 0, cells := 0, slots := 0, locals := 0 }
def F_Thr_wish (i0 : Nat) (x1 : Int32) (x2 : Int32) (x3 : Int32) (x4 : Int32) (σ : ed_S) : Option ed_S := (vG 0 3 fun j1 => vL (ed_st σ 40 i0 j1 x1) fun σ5 => (vG 1 3 fun j7 => vL (ed_st σ5 40 i0 j7 x2) fun σ11 => (vG 2 3 fun j13 => vL (ed_st σ11 40 i0 j13 x3) fun σ17 => (if (x4 &&& 1) = 0 then (vL (ed_st σ17 15 i0 0 0) fun σ20 => (if (x4 &&& 2) = 0 then (vL (ed_st σ20 16 i0 0 0) fun σ23 => (some σ23)) else (vL (ed_st σ20 16 i0 0 1) fun σ25 => (some σ25)))) else (vL (ed_st σ17 15 i0 0 1) fun σ27 => (if (x4 &&& 2) = 0 then (vL (ed_st σ27 16 i0 0 0) fun σ30 => (some σ30)) else (vL (ed_st σ27 16 i0 0 1) fun σ32 => (some σ32))))))))
set_option maxHeartbeats 4000000 in
set_option maxRecDepth 100000 in
theorem T_Thr_wish {σ' : ed_S} (B : ed_B p s m args meth c prog_7_method_2_code "ExecutiveDesk$ThreadState" 5 D ca) (hr : meth.sig.returnType = none) (hA : ∀ q : Nat, s.heap.size ≤ q → A q) : ∀ (i0 : Nat) (x1 : Int32) (x2 : Int32) (x3 : Int32) (x4 : Int32) (σ : ed_S), i0 < 8 → F_Thr_wish  i0 x1 x2 x3 x4 σ = some σ' → ed_G p l e rm_Thr_wish s m args below meth c D ca (ed_w ad ca) A (ed_QV D ca (ed_w ad ca) A below args s σ') 5 0 [(0, .ref (ad (pThr i0))), (1, .int x1), (2, .int x2), (3, .int x3), (4, .int x4)] [] σ := by
  have hx := B.1
  have hb := B.2.1
  intro i0 x1 x2 x3 x4 σ h0 hF H locs ls hP hD hS hl
  have hF : (vG 0 3 fun j1 => vL (ed_st σ 40 i0 j1 x1) fun σ5 => (vG 1 3 fun j7 => vL (ed_st σ5 40 i0 j7 x2) fun σ11 => (vG 2 3 fun j13 => vL (ed_st σ11 40 i0 j13 x3) fun σ17 => (if (x4 &&& 1) = 0 then (vL (ed_st σ17 15 i0 0 0) fun σ20 => (if (x4 &&& 2) = 0 then (vL (ed_st σ20 16 i0 0 0) fun σ23 => (some σ23)) else (vL (ed_st σ20 16 i0 0 1) fun σ25 => (some σ25)))) else (vL (ed_st σ17 15 i0 0 1) fun σ27 => (if (x4 &&& 2) = 0 then (vL (ed_st σ27 16 i0 0 0) fun σ30 => (some σ30)) else (vL (ed_st σ27 16 i0 0 1) fun σ32 => (some σ32)))))))) = some σ' := hF
  refine lv_aload_n hx hb d_Thr_wish_0 rfl (lv_at hl 0 rfl) ?_
  refine gf_Thr_places B hP h0 L_Thr_20 d_Thr_wish_1 ?_
  refine lv_iconst (v := 0) hx hb d_Thr_wish_4 (by decide) ?_
  refine lv_iload_n hx hb d_Thr_wish_5 rfl (lv_at hl 1 rfl) ?_
  obtain ⟨j1, ej2, hj3, hn4, hF⟩ := vG_some hF
  obtain ⟨σ5, e6, hF⟩ := vL_some hF
  refine is_Plc B hP hD hS h0 hn4 ej2 e6 d_Thr_wish_6 (fun H locs hP hD hS => ?_)
  refine lv_aload_n hx hb d_Thr_wish_7 rfl (lv_at hl 0 rfl) ?_
  refine gf_Thr_places B hP h0 L_Thr_20 d_Thr_wish_8 ?_
  refine lv_iconst (v := 1) hx hb d_Thr_wish_11 (by decide) ?_
  refine lv_iload_n hx hb d_Thr_wish_12 rfl (lv_at hl 2 rfl) ?_
  obtain ⟨j7, ej8, hj9, hn10, hF⟩ := vG_some hF
  obtain ⟨σ11, e12, hF⟩ := vL_some hF
  refine is_Plc B hP hD hS h0 hn10 ej8 e12 d_Thr_wish_13 (fun H locs hP hD hS => ?_)
  refine lv_aload_n hx hb d_Thr_wish_14 rfl (lv_at hl 0 rfl) ?_
  refine gf_Thr_places B hP h0 L_Thr_20 d_Thr_wish_15 ?_
  refine lv_iconst (v := 2) hx hb d_Thr_wish_18 (by decide) ?_
  refine lv_iload_n hx hb d_Thr_wish_19 rfl (lv_at hl 3 rfl) ?_
  obtain ⟨j13, ej14, hj15, hn16, hF⟩ := vG_some hF
  obtain ⟨σ17, e18, hF⟩ := vL_some hF
  refine is_Plc B hP hD hS h0 hn16 ej14 e18 d_Thr_wish_20 (fun H locs hP hD hS => ?_)
  refine lv_aload_n hx hb d_Thr_wish_21 rfl (lv_at hl 0 rfl) ?_
  refine lv_iload hx hb d_Thr_wish_22 (lv_at hl 4 rfl) ?_
  refine lv_iconst (v := 1) hx hb d_Thr_wish_24 (by decide) ?_
  refine lv_iand hx hb d_Thr_wish_25 ?_
  refine lv_if_eq (tgt := 33) hx hb d_Thr_wish_26 (by decide) (fun c19 => ?_) (fun c19 => ?_)
  · have hF := vIt c19 hF
    refine lv_iconst (v := 0) hx hb d_Thr_wish_33 (by decide) ?_
    obtain ⟨σ20, e21, hF⟩ := vL_some hF
    refine pf_Thr_wantsAll B hP hD hS h0 (by decide) e21 L_Thr_34 d_Thr_wish_34 (fun H locs hP hD hS => ?_)
    refine lv_aload_n hx hb d_Thr_wish_37 rfl (lv_at hl 0 rfl) ?_
    refine lv_iload hx hb d_Thr_wish_38 (lv_at hl 4 rfl) ?_
    refine lv_iconst (v := 2) hx hb d_Thr_wish_40 (by decide) ?_
    refine lv_iand hx hb d_Thr_wish_41 ?_
    refine lv_if_eq (tgt := 49) hx hb d_Thr_wish_42 (by decide) (fun c22 => ?_) (fun c22 => ?_)
    · have hF := vIt c22 hF
      refine lv_iconst (v := 0) hx hb d_Thr_wish_49 (by decide) ?_
      obtain ⟨σ23, e24, hF⟩ := vL_some hF
      refine pf_Thr_mayBeAlerted B hP hD hS h0 (by decide) e24 L_Thr_38 d_Thr_wish_50 (fun H locs hP hD hS => ?_)
      exact ed_rV B hr hA hP hD hS (Option.some.inj hF) d_Thr_wish_53
    · have hF := vIf c22 hF
      refine lv_iconst (v := 1) hx hb d_Thr_wish_45 (by decide) ?_
      refine lv_goto (tgt := 50) hx hb d_Thr_wish_46 (by decide) ?_
      obtain ⟨σ25, e26, hF⟩ := vL_some hF
      refine pf_Thr_mayBeAlerted B hP hD hS h0 (by decide) e26 L_Thr_38 d_Thr_wish_50 (fun H locs hP hD hS => ?_)
      exact ed_rV B hr hA hP hD hS (Option.some.inj hF) d_Thr_wish_53
  · have hF := vIf c19 hF
    refine lv_iconst (v := 1) hx hb d_Thr_wish_29 (by decide) ?_
    refine lv_goto (tgt := 34) hx hb d_Thr_wish_30 (by decide) ?_
    obtain ⟨σ27, e28, hF⟩ := vL_some hF
    refine pf_Thr_wantsAll B hP hD hS h0 (by decide) e28 L_Thr_34 d_Thr_wish_34 (fun H locs hP hD hS => ?_)
    refine lv_aload_n hx hb d_Thr_wish_37 rfl (lv_at hl 0 rfl) ?_
    refine lv_iload hx hb d_Thr_wish_38 (lv_at hl 4 rfl) ?_
    refine lv_iconst (v := 2) hx hb d_Thr_wish_40 (by decide) ?_
    refine lv_iand hx hb d_Thr_wish_41 ?_
    refine lv_if_eq (tgt := 49) hx hb d_Thr_wish_42 (by decide) (fun c29 => ?_) (fun c29 => ?_)
    · have hF := vIt c29 hF
      refine lv_iconst (v := 0) hx hb d_Thr_wish_49 (by decide) ?_
      obtain ⟨σ30, e31, hF⟩ := vL_some hF
      refine pf_Thr_mayBeAlerted B hP hD hS h0 (by decide) e31 L_Thr_38 d_Thr_wish_50 (fun H locs hP hD hS => ?_)
      exact ed_rV B hr hA hP hD hS (Option.some.inj hF) d_Thr_wish_53
    · have hF := vIf c29 hF
      refine lv_iconst (v := 1) hx hb d_Thr_wish_45 (by decide) ?_
      refine lv_goto (tgt := 50) hx hb d_Thr_wish_46 (by decide) ?_
      obtain ⟨σ32, e33, hF⟩ := vL_some hF
      refine pf_Thr_mayBeAlerted B hP hD hS h0 (by decide) e33 L_Thr_38 d_Thr_wish_50 (fun H locs hP hD hS => ?_)
      exact ed_rV B hr hA hP hD hS (Option.some.inj hF) d_Thr_wish_53
set_option maxHeartbeats 4000000 in
set_option maxRecDepth 100000 in
theorem C_Thr_wish (l : Launch) (D : va_G) (ad : Nat → Nat) (ca : Nat → ClassId) (i0 : Nat) (x1 : Int32) (x2 : Int32) (x3 : Int32) (x4 : Int32) (σ : ed_S) (σ' : ed_S) (h0 : i0 < 8) (hF : F_Thr_wish i0 x1 x2 x3 x4 σ = some σ') : ed_MV l y_Thr_wish ws_Thr_wish rm_Thr_wish D ca (ed_w ad ca) [.ref (ad (pThr i0)), .int x1, .int x2, .int x3, .int x4] σ σ' := by
  refine ed_metV (cc := prog_7_method_2_code) (own := "ExecutiveDesk$ThreadState") (nL := 5) (ret := none) (by decide) rfl rfl (Nat.le_of_ble_eq_true rfl) ?_
  intro p e s m args below meth c A B hr hA
  exact T_Thr_wish B hr hA i0 x1 x2 x3 x4 σ h0 hF
abbrev ws_Thr_deliverCalls : List Cond := Cond.code y_Thr_deliverCalls prog_7_method_3_code 2 none :: ed_tb
abbrev rm_Thr_deliverCalls : Room := { frames := 1, cells := 0, slots := 0, locals := 22 }
def F_Thr_deliverCalls_8 : Nat → Nat → Int32 → ed_S → Option ed_S
  | 0, _, _, _ => none
  | n + 1, i0, x1, σ => (if x1 ≤ 0 then (some σ) else (vB2 (F_Row_removeFirst i0 σ) fun r4 σ2 => (vL (ed_st σ2 13 i0 0 r4) fun σ5 => (vL (ed_st σ5 12 i0 0 ((σ5 12 i0 0) + 1)) fun σ7 => ((F_Thr_deliverCalls_8  n) i0 (x1 + (-1)) σ7)))))
def F_Thr_deliverCalls (i0 : Nat) (σ : ed_S) : Option ed_S := (F_Thr_deliverCalls_8  ed_fu i0 (σ 18 i0 0) σ)
set_option maxHeartbeats 4000000 in
set_option maxRecDepth 100000 in
theorem T_Thr_deliverCalls_8 {σ' : ed_S} (B : ed_B p s m args meth c prog_7_method_3_code "ExecutiveDesk$ThreadState" 2 D ca) (hr : meth.sig.returnType = none) (hA : ∀ q : Nat, s.heap.size ≤ q → A q) : ∀ (n : Nat) (i0 : Nat) (x1 : Int32) (σ : ed_S), i0 < 8 → F_Thr_deliverCalls_8  n i0 x1 σ = some σ' → ed_G p l e rm_Thr_deliverCalls s m args below meth c D ca (ed_w ad ca) A (ed_QV D ca (ed_w ad ca) A below args s σ') 2 8 [(0, .ref (ad (pThr i0))), (1, .int x1)] [] σ := by
  have hx := B.1
  have hb := B.2.1
  intro n
  induction n with
  | zero => intro i0 x1 σ h0 hF; exact absurd hF (by intro h; cases h)
  | succ n kk8 =>
    intro i0 x1 σ h0 hF H locs ls hP hD hS hl
    have hF : (if x1 ≤ 0 then (some σ) else (vB2 (F_Row_removeFirst i0 σ) fun r4 σ2 => (vL (ed_st σ2 13 i0 0 r4) fun σ5 => (vL (ed_st σ5 12 i0 0 ((σ5 12 i0 0) + 1)) fun σ7 => ((F_Thr_deliverCalls_8  n) i0 (x1 + (-1)) σ7))))) = some σ' := hF
    refine lv_iload_n hx hb d_Thr_deliverCalls_8 rfl (lv_at hl 1 rfl) ?_
    refine lv_if_le (tgt := 39) hx hb d_Thr_deliverCalls_9 (by decide) (fun c1 => ?_) (fun c1 => ?_)
    · have hF := vIt c1 hF
      exact ed_rV B hr hA hP hD hS (Option.some.inj hF) d_Thr_deliverCalls_39
    · have hF := vIf c1 hF
      refine lv_aload_n hx hb d_Thr_deliverCalls_12 rfl (lv_at hl 0 rfl) ?_
      refine lv_aload_n hx hb d_Thr_deliverCalls_13 rfl (lv_at hl 0 rfl) ?_
      refine gf_Thr_calls B hP h0 L_Thr_14 d_Thr_deliverCalls_14 ?_
      obtain ⟨r4, σ2, q3, hF⟩ := vB2_some hF
      refine ed_cvI (As := []) (rest := [.ref (ad (pThr i0))]) B hP hD hS hA (C_Row_removeFirst l D ad ca i0 σ r4 σ2 (ed_b0 h0) q3) me_Row_removeFirst mv_Row_removeFirst L_Thr_44 (ed_rc_Row B hP (ed_b0 h0)) ⟨rfl, rfl⟩ ⟨Nat.le_of_ble_eq_true rfl, Nat.le_of_ble_eq_true rfl⟩ rfl rfl hl.1 (lv_room (Nat.le_of_ble_eq_true rfl)) d_Thr_deliverCalls_17 (fun H locs hP hD hS => ?_)
      obtain ⟨σ5, e6, hF⟩ := vL_some hF
      refine pf_Thr_latestCall B hP hD hS h0 e6 L_Thr_48 d_Thr_deliverCalls_20 (fun H locs hP hD hS => ?_)
      refine lv_aload_n hx hb d_Thr_deliverCalls_23 rfl (lv_at hl 0 rfl) ?_
      refine lv_dup hx hb d_Thr_deliverCalls_24 rfl ?_
      refine gf_Thr_delivered B hP h0 L_Thr_51 d_Thr_deliverCalls_25 ?_
      refine lv_iconst (v := 1) hx hb d_Thr_deliverCalls_28 (by decide) ?_
      refine lv_iadd hx hb d_Thr_deliverCalls_29 ?_
      obtain ⟨σ7, e8, hF⟩ := vL_some hF
      refine pf_Thr_delivered B hP hD hS h0 e8 L_Thr_51 d_Thr_deliverCalls_30 (fun H locs hP hD hS => ?_)
      refine lv_iinc (v := (x1 + (-1))) (lv' := [(1, .int (x1 + (-1))), (0, .ref (ad (pThr i0)))]) hx hb d_Thr_deliverCalls_33 hl (k := 1) rfl rfl (by decide) rfl (fun ls hl => ?_)
      refine lv_goto (tgt := 8) hx hb d_Thr_deliverCalls_36 (by decide) ?_
      exact kk8 i0 (x1 + (-1)) σ7 h0 hF _ _ _ hP hD hS (lv_sub hl [1, 0] rfl)
set_option maxHeartbeats 4000000 in
set_option maxRecDepth 100000 in
theorem T_Thr_deliverCalls {σ' : ed_S} (B : ed_B p s m args meth c prog_7_method_3_code "ExecutiveDesk$ThreadState" 2 D ca) (hr : meth.sig.returnType = none) (hA : ∀ q : Nat, s.heap.size ≤ q → A q) : ∀ (i0 : Nat) (σ : ed_S), i0 < 8 → F_Thr_deliverCalls  i0 σ = some σ' → ed_G p l e rm_Thr_deliverCalls s m args below meth c D ca (ed_w ad ca) A (ed_QV D ca (ed_w ad ca) A below args s σ') 2 0 [(0, .ref (ad (pThr i0)))] [] σ := by
  have hx := B.1
  have hb := B.2.1
  intro i0 σ h0 hF H locs ls hP hD hS hl
  have hF : (F_Thr_deliverCalls_8  ed_fu i0 (σ 18 i0 0) σ) = some σ' := hF
  refine lv_aload_n hx hb d_Thr_deliverCalls_0 rfl (lv_at hl 0 rfl) ?_
  refine gf_Thr_calls B hP h0 L_Thr_14 d_Thr_deliverCalls_1 ?_
  refine gf_Row_size B hP (ed_b0 h0) L_Thr_41 d_Thr_deliverCalls_4 ?_
  refine lv_istore_n (lv' := [(1, .int (σ 18 i0 0)), (0, .ref (ad (pThr i0)))]) hx hb d_Thr_deliverCalls_7 rfl hl (by decide) rfl (fun ls hl => ?_)
  exact T_Thr_deliverCalls_8 B hr hA  ed_fu i0 (σ 18 i0 0) σ h0 hF _ _ _ hP hD hS (lv_sub hl [1, 0] rfl)
set_option maxHeartbeats 4000000 in
set_option maxRecDepth 100000 in
theorem C_Thr_deliverCalls (l : Launch) (D : va_G) (ad : Nat → Nat) (ca : Nat → ClassId) (i0 : Nat) (σ : ed_S) (σ' : ed_S) (h0 : i0 < 8) (hF : F_Thr_deliverCalls i0 σ = some σ') : ed_MV l y_Thr_deliverCalls ws_Thr_deliverCalls rm_Thr_deliverCalls D ca (ed_w ad ca) [.ref (ad (pThr i0))] σ σ' := by
  refine ed_metV (cc := prog_7_method_3_code) (own := "ExecutiveDesk$ThreadState") (nL := 2) (ret := none) (by decide) rfl rfl (Nat.le_of_ble_eq_true rfl) ?_
  intro p e s m args below meth c A B hr hA
  exact T_Thr_deliverCalls B hr hA i0 σ h0 hF
abbrev ws_Desk_beginWait : List Cond := Cond.code y_Desk_beginWait prog_1_method_47_code 4 none :: ed_tb
abbrev rm_Desk_beginWait : Room := { frames := 1, cells := 0, slots := 0, locals := 24 }
def F_Desk_beginWait (x1 : Int32) (x2 : Int32) (σ : ed_S) : Option ed_S := (vG x1 8 fun j1 => (vL (ed_st σ 10 j1 0 2) fun σ5 => (vL (ed_st σ5 11 j1 0 (-10)) fun σ7 => (vL (ed_st σ7 14 j1 0 0) fun σ9 => (if x2 = (-1) then (vL (ed_st σ9 17 j1 0 (-1)) fun σ20 => (vL (ed_st σ20 5 0 0 (-1)) fun σ22 => (vB1 (F_Row_addLast 32 x1 σ22) fun σ24 => (vB1 (F_Desk_pointToPlacesOf j1 1 σ24) fun σ26 => (some σ26))))) else (vL (ed_st σ9 17 j1 0 ((σ9 3 0 0) + x2)) fun σ12 => (vL (ed_st σ12 5 0 0 (-1)) fun σ14 => (vB1 (F_Row_addLast 32 x1 σ14) fun σ16 => (vB1 (F_Desk_pointToPlacesOf j1 1 σ16) fun σ18 => (some σ18))))))))))
set_option maxHeartbeats 4000000 in
set_option maxRecDepth 100000 in
theorem T_Desk_beginWait {σ' : ed_S} (B : ed_B p s m args meth c prog_1_method_47_code "ExecutiveDesk" 4 D ca) (hr : meth.sig.returnType = none) (hA : ∀ q : Nat, s.heap.size ≤ q → A q) : ∀ (x1 : Int32) (x2 : Int32) (σ : ed_S), F_Desk_beginWait  x1 x2 σ = some σ' → ed_G p l e rm_Desk_beginWait s m args below meth c D ca (ed_w ad ca) A (ed_QV D ca (ed_w ad ca) A below args s σ') 4 0 [(0, .ref (ad (pDesk 0))), (1, .int x1), (2, .int x2)] [] σ := by
  have hx := B.1
  have hb := B.2.1
  intro x1 x2 σ  hF H locs ls hP hD hS hl
  have hF : (vG x1 8 fun j1 => (vL (ed_st σ 10 j1 0 2) fun σ5 => (vL (ed_st σ5 11 j1 0 (-10)) fun σ7 => (vL (ed_st σ7 14 j1 0 0) fun σ9 => (if x2 = (-1) then (vL (ed_st σ9 17 j1 0 (-1)) fun σ20 => (vL (ed_st σ20 5 0 0 (-1)) fun σ22 => (vB1 (F_Row_addLast 32 x1 σ22) fun σ24 => (vB1 (F_Desk_pointToPlacesOf j1 1 σ24) fun σ26 => (some σ26))))) else (vL (ed_st σ9 17 j1 0 ((σ9 3 0 0) + x2)) fun σ12 => (vL (ed_st σ12 5 0 0 (-1)) fun σ14 => (vB1 (F_Row_addLast 32 x1 σ14) fun σ16 => (vB1 (F_Desk_pointToPlacesOf j1 1 σ16) fun σ18 => (some σ18)))))))))) = some σ' := hF
  refine lv_aload_n hx hb d_Desk_beginWait_0 rfl (lv_at hl 0 rfl) ?_
  refine gf_Desk_threads B hP (by decide) L_Desk_26 d_Desk_beginWait_1 ?_
  refine lv_iload_n hx hb d_Desk_beginWait_4 rfl (lv_at hl 1 rfl) ?_
  obtain ⟨j1, ej2, hj3, hn4, hF⟩ := vG_some hF
  refine al_AThr B hP (by decide) hn4 ej2 hj3 d_Desk_beginWait_5 ?_
  refine lv_astore_n (lv' := [(3, .ref (ad (pThr j1))), (0, .ref (ad (pDesk 0))), (1, .int x1), (2, .int x2)]) hx hb d_Desk_beginWait_6 rfl hl (by decide) rfl (fun ls hl => ?_)
  refine lv_aload_n hx hb d_Desk_beginWait_7 rfl (lv_at hl 0 rfl) ?_
  refine lv_iconst (v := 2) hx hb d_Desk_beginWait_8 (by decide) ?_
  obtain ⟨σ5, e6, hF⟩ := vL_some hF
  refine pf_Thr_state B hP hD hS hj3 e6 L_Desk_192 d_Desk_beginWait_9 (fun H locs hP hD hS => ?_)
  refine lv_aload_n hx hb d_Desk_beginWait_12 rfl (lv_at hl 0 rfl) ?_
  refine lv_bipush (v := (-10)) hx hb d_Desk_beginWait_13 (by decide) ?_
  obtain ⟨σ7, e8, hF⟩ := vL_some hF
  refine pf_Thr_result B hP hD hS hj3 e8 L_Desk_252 d_Desk_beginWait_15 (fun H locs hP hD hS => ?_)
  refine lv_aload_n hx hb d_Desk_beginWait_18 rfl (lv_at hl 0 rfl) ?_
  refine lv_iconst (v := 0) hx hb d_Desk_beginWait_19 (by decide) ?_
  obtain ⟨σ9, e10, hF⟩ := vL_some hF
  refine pf_Thr_used B hP hD hS hj3 e10 L_Desk_261 d_Desk_beginWait_20 (fun H locs hP hD hS => ?_)
  refine lv_aload_n hx hb d_Desk_beginWait_23 rfl (lv_at hl 0 rfl) ?_
  refine lv_iload_n hx hb d_Desk_beginWait_24 rfl (lv_at hl 3 rfl) ?_
  refine lv_iconst (v := (-1)) hx hb d_Desk_beginWait_25 (by decide) ?_
  refine lv_icmp_ne (tgt := 33) hx hb d_Desk_beginWait_26 (by decide) (fun c11 => ?_) (fun c11 => ?_)
  · have hF := vIf c11 hF
    refine lv_aload_n hx hb d_Desk_beginWait_33 rfl (lv_at hl 1 rfl) ?_
    refine gf_Desk_clock B hP (by decide) L_Desk_249 d_Desk_beginWait_34 ?_
    refine lv_iload_n hx hb d_Desk_beginWait_37 rfl (lv_at hl 3 rfl) ?_
    refine lv_iadd hx hb d_Desk_beginWait_38 ?_
    obtain ⟨σ12, e13, hF⟩ := vL_some hF
    refine pf_Thr_deadline B hP hD hS hj3 e13 L_Desk_264 d_Desk_beginWait_39 (fun H locs hP hD hS => ?_)
    refine lv_aload_n hx hb d_Desk_beginWait_42 rfl (lv_at hl 1 rfl) ?_
    refine gf_Desk_scheduler B hP (by decide) L_Desk_18 d_Desk_beginWait_43 ?_
    refine lv_iconst (v := (-1)) hx hb d_Desk_beginWait_46 (by decide) ?_
    obtain ⟨σ14, e15, hF⟩ := vL_some hF
    refine pf_Sched_running B hP hD hS (by decide) e15 L_Desk_92 d_Desk_beginWait_47 (fun H locs hP hD hS => ?_)
    refine lv_aload_n hx hb d_Desk_beginWait_50 rfl (lv_at hl 1 rfl) ?_
    refine gf_Desk_waiting B hP (by decide) L_Desk_44 d_Desk_beginWait_51 ?_
    refine lv_iload_n hx hb d_Desk_beginWait_54 rfl (lv_at hl 2 rfl) ?_
    obtain ⟨σ16, q17, hF⟩ := vB1_some hF
    refine ed_cvV (As := [.int x1]) (rest := []) B hP hD hS hA (C_Row_addLast l D ad ca 32 x1 σ14 σ16 (by decide) q17) me_Row_addLast mv_Row_addLast L_Desk_195 (ed_rc_Row B hP (by decide)) ⟨rfl, rfl⟩ ⟨Nat.le_of_ble_eq_true rfl, Nat.le_of_ble_eq_true rfl⟩ rfl rfl hl.1 (lv_room (Nat.le_of_ble_eq_true rfl)) d_Desk_beginWait_55 (fun H locs hP hD hS => ?_)
    refine lv_aload_n hx hb d_Desk_beginWait_58 rfl (lv_at hl 1 rfl) ?_
    refine lv_aload_n hx hb d_Desk_beginWait_59 rfl (lv_at hl 0 rfl) ?_
    refine lv_iconst (v := 1) hx hb d_Desk_beginWait_60 (by decide) ?_
    obtain ⟨σ18, q19, hF⟩ := vB1_some hF
    refine ed_cvV (As := [.ref (ad (pThr j1)), .int 1]) (rest := []) B hP hD hS hA (C_Desk_pointToPlacesOf l D ad ca j1 1 σ16 σ18 hj3 q19) me_Desk_pointToPlacesOf mv_Desk_pointToPlacesOf L_Desk_364 (ed_rc_Desk B hP (by decide)) ⟨rfl, rfl⟩ ⟨Nat.le_of_ble_eq_true rfl, Nat.le_of_ble_eq_true rfl⟩ rfl rfl hl.1 (lv_room (Nat.le_of_ble_eq_true rfl)) d_Desk_beginWait_61 (fun H locs hP hD hS => ?_)
    exact ed_rV B hr hA hP hD hS (Option.some.inj hF) d_Desk_beginWait_64
  · have hF := vIt c11 hF
    refine lv_iconst (v := (-1)) hx hb d_Desk_beginWait_29 (by decide) ?_
    refine lv_goto (tgt := 39) hx hb d_Desk_beginWait_30 (by decide) ?_
    obtain ⟨σ20, e21, hF⟩ := vL_some hF
    refine pf_Thr_deadline B hP hD hS hj3 e21 L_Desk_264 d_Desk_beginWait_39 (fun H locs hP hD hS => ?_)
    refine lv_aload_n hx hb d_Desk_beginWait_42 rfl (lv_at hl 1 rfl) ?_
    refine gf_Desk_scheduler B hP (by decide) L_Desk_18 d_Desk_beginWait_43 ?_
    refine lv_iconst (v := (-1)) hx hb d_Desk_beginWait_46 (by decide) ?_
    obtain ⟨σ22, e23, hF⟩ := vL_some hF
    refine pf_Sched_running B hP hD hS (by decide) e23 L_Desk_92 d_Desk_beginWait_47 (fun H locs hP hD hS => ?_)
    refine lv_aload_n hx hb d_Desk_beginWait_50 rfl (lv_at hl 1 rfl) ?_
    refine gf_Desk_waiting B hP (by decide) L_Desk_44 d_Desk_beginWait_51 ?_
    refine lv_iload_n hx hb d_Desk_beginWait_54 rfl (lv_at hl 2 rfl) ?_
    obtain ⟨σ24, q25, hF⟩ := vB1_some hF
    refine ed_cvV (As := [.int x1]) (rest := []) B hP hD hS hA (C_Row_addLast l D ad ca 32 x1 σ22 σ24 (by decide) q25) me_Row_addLast mv_Row_addLast L_Desk_195 (ed_rc_Row B hP (by decide)) ⟨rfl, rfl⟩ ⟨Nat.le_of_ble_eq_true rfl, Nat.le_of_ble_eq_true rfl⟩ rfl rfl hl.1 (lv_room (Nat.le_of_ble_eq_true rfl)) d_Desk_beginWait_55 (fun H locs hP hD hS => ?_)
    refine lv_aload_n hx hb d_Desk_beginWait_58 rfl (lv_at hl 1 rfl) ?_
    refine lv_aload_n hx hb d_Desk_beginWait_59 rfl (lv_at hl 0 rfl) ?_
    refine lv_iconst (v := 1) hx hb d_Desk_beginWait_60 (by decide) ?_
    obtain ⟨σ26, q27, hF⟩ := vB1_some hF
    refine ed_cvV (As := [.ref (ad (pThr j1)), .int 1]) (rest := []) B hP hD hS hA (C_Desk_pointToPlacesOf l D ad ca j1 1 σ24 σ26 hj3 q27) me_Desk_pointToPlacesOf mv_Desk_pointToPlacesOf L_Desk_364 (ed_rc_Desk B hP (by decide)) ⟨rfl, rfl⟩ ⟨Nat.le_of_ble_eq_true rfl, Nat.le_of_ble_eq_true rfl⟩ rfl rfl hl.1 (lv_room (Nat.le_of_ble_eq_true rfl)) d_Desk_beginWait_61 (fun H locs hP hD hS => ?_)
    exact ed_rV B hr hA hP hD hS (Option.some.inj hF) d_Desk_beginWait_64
set_option maxHeartbeats 4000000 in
set_option maxRecDepth 100000 in
theorem C_Desk_beginWait (l : Launch) (D : va_G) (ad : Nat → Nat) (ca : Nat → ClassId) (x1 : Int32) (x2 : Int32) (σ : ed_S) (σ' : ed_S) (hF : F_Desk_beginWait x1 x2 σ = some σ') : ed_MV l y_Desk_beginWait ws_Desk_beginWait rm_Desk_beginWait D ca (ed_w ad ca) [.ref (ad (pDesk 0)), .int x1, .int x2] σ σ' := by
  refine ed_metV (cc := prog_1_method_47_code) (own := "ExecutiveDesk") (nL := 4) (ret := none) (by decide) rfl rfl (Nat.le_of_ble_eq_true rfl) ?_
  intro p e s m args below meth c A B hr hA
  exact T_Desk_beginWait B hr hA x1 x2 σ  hF
end EDT
