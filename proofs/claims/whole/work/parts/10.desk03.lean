section EDT
variable {p : Program} {l : Launch} {e : Env} {s : State} {m : MethodId} {args : Array Value} {below : List Frame} {meth : Method} {c : Code} {D : va_G} {ad : Nat → Nat} {ca : Nat → ClassId} {A : Nat → Prop}
abbrev ws_Obj_take : List Cond := Cond.code y_Obj_take prog_2_method_7_code 3 (some .boolean) :: ed_tb
abbrev rm_Obj_take : Room := { frames := 0, cells := 0, slots := 0, locals := 0 }
def F_Obj_take (i0 : Nat) (x1 : Int32) (σ : ed_S) : Option (Int32 × ed_S) := (if (σ 22 i0 0) = 1 then (vL (ed_st σ 26 i0 0 0) fun σ15 => (vC ((σ 28 i0 0) = 0 ∨ (σ 28 i0 0) = 1) (some ((σ 28 i0 0), σ15)))) else (if (σ 22 i0 0) = 3 then (vL (ed_st σ 26 i0 0 ((σ 26 i0 0) - 1)) fun σ12 => (vC ((σ 28 i0 0) = 0 ∨ (σ 28 i0 0) = 1) (some ((σ 28 i0 0), σ12)))) else (if (σ 22 i0 0) = 2 then (vL (ed_st σ 27 i0 0 x1) fun σ5 => (vL (ed_st σ5 26 i0 0 ((σ5 26 i0 0) + 1)) fun σ7 => (vL (ed_st σ7 28 i0 0 0) fun σ9 => (vC ((σ 28 i0 0) = 0 ∨ (σ 28 i0 0) = 1) (some ((σ 28 i0 0), σ9)))))) else (vC ((σ 28 i0 0) = 0 ∨ (σ 28 i0 0) = 1) (some ((σ 28 i0 0), σ))))))
set_option maxHeartbeats 4000000 in
set_option maxRecDepth 100000 in
theorem T_Obj_take {r : Int32} {σ' : ed_S} (B : ed_B p s m args meth c prog_2_method_7_code "ExecutiveDesk$ObjectState" 3 D ca) (hr : meth.sig.returnType = (some .boolean)) (hA : ∀ q : Nat, s.heap.size ≤ q → A q) : ∀ (i0 : Nat) (x1 : Int32) (σ : ed_S), i0 < 16 → F_Obj_take  i0 x1 σ = some (r, σ') → ed_G p l e rm_Obj_take s m args below meth c D ca (ed_w ad ca) A (ed_QI D ca (ed_w ad ca) A below args s r σ') 3 0 [(0, .ref (ad (pObj i0))), (1, .int x1)] [] σ := by
  have hx := B.1
  have hb := B.2.1
  intro i0 x1 σ h0 hF H locs ls hP hD hS hl
  have hF : (if (σ 22 i0 0) = 1 then (vL (ed_st σ 26 i0 0 0) fun σ15 => (vC ((σ 28 i0 0) = 0 ∨ (σ 28 i0 0) = 1) (some ((σ 28 i0 0), σ15)))) else (if (σ 22 i0 0) = 3 then (vL (ed_st σ 26 i0 0 ((σ 26 i0 0) - 1)) fun σ12 => (vC ((σ 28 i0 0) = 0 ∨ (σ 28 i0 0) = 1) (some ((σ 28 i0 0), σ12)))) else (if (σ 22 i0 0) = 2 then (vL (ed_st σ 27 i0 0 x1) fun σ5 => (vL (ed_st σ5 26 i0 0 ((σ5 26 i0 0) + 1)) fun σ7 => (vL (ed_st σ7 28 i0 0 0) fun σ9 => (vC ((σ 28 i0 0) = 0 ∨ (σ 28 i0 0) = 1) (some ((σ 28 i0 0), σ9)))))) else (vC ((σ 28 i0 0) = 0 ∨ (σ 28 i0 0) = 1) (some ((σ 28 i0 0), σ)))))) = some (r, σ') := hF
  refine lv_aload_n hx hb d_Obj_take_0 rfl (lv_at hl 0 rfl) ?_
  refine gf_Obj_abandoned B hP h0 L_Obj_43 d_Obj_take_1 ?_
  refine lv_istore_n (lv' := [(2, .int (σ 28 i0 0)), (0, .ref (ad (pObj i0))), (1, .int x1)]) hx hb d_Obj_take_4 rfl hl (by decide) rfl (fun ls hl => ?_)
  refine lv_aload_n hx hb d_Obj_take_5 rfl (lv_at hl 1 rfl) ?_
  refine gf_Obj_type B hP h0 L_Obj_37 d_Obj_take_6 ?_
  refine lv_iconst (v := 1) hx hb d_Obj_take_9 (by decide) ?_
  refine lv_icmp_ne (tgt := 21) hx hb d_Obj_take_10 (by decide) (fun c1 => ?_) (fun c1 => ?_)
  · have hF := vIf c1 hF
    refine lv_aload_n hx hb d_Obj_take_21 rfl (lv_at hl 1 rfl) ?_
    refine gf_Obj_type B hP h0 L_Obj_37 d_Obj_take_22 ?_
    refine lv_iconst (v := 3) hx hb d_Obj_take_25 (by decide) ?_
    refine lv_icmp_ne (tgt := 42) hx hb d_Obj_take_26 (by decide) (fun c2 => ?_) (fun c2 => ?_)
    · have hF := vIf c2 hF
      refine lv_aload_n hx hb d_Obj_take_42 rfl (lv_at hl 1 rfl) ?_
      refine gf_Obj_type B hP h0 L_Obj_37 d_Obj_take_43 ?_
      refine lv_iconst (v := 2) hx hb d_Obj_take_46 (by decide) ?_
      refine lv_icmp_ne (tgt := 70) hx hb d_Obj_take_47 (by decide) (fun c3 => ?_) (fun c3 => ?_)
      · have hF := vIf c3 hF
        refine lv_iload_n hx hb d_Obj_take_70 rfl (lv_at hl 0 rfl) ?_
        obtain ⟨z4, hF⟩ := vC_some hF
        exact ed_rZ B hr hA hP hD hS z4 (vP hF) d_Obj_take_71
      · have hF := vIt c3 hF
        refine lv_aload_n hx hb d_Obj_take_50 rfl (lv_at hl 1 rfl) ?_
        refine lv_iload_n hx hb d_Obj_take_51 rfl (lv_at hl 2 rfl) ?_
        obtain ⟨σ5, e6, hF⟩ := vL_some hF
        refine pf_Obj_owner B hP hD hS h0 e6 L_Obj_31 d_Obj_take_52 (fun H locs hP hD hS => ?_)
        refine lv_aload_n hx hb d_Obj_take_55 rfl (lv_at hl 1 rfl) ?_
        refine lv_dup hx hb d_Obj_take_56 rfl ?_
        refine gf_Obj_value B hP h0 L_Obj_40 d_Obj_take_57 ?_
        refine lv_iconst (v := 1) hx hb d_Obj_take_60 (by decide) ?_
        refine lv_iadd hx hb d_Obj_take_61 ?_
        obtain ⟨σ7, e8, hF⟩ := vL_some hF
        refine pf_Obj_value B hP hD hS h0 e8 L_Obj_40 d_Obj_take_62 (fun H locs hP hD hS => ?_)
        refine lv_aload_n hx hb d_Obj_take_65 rfl (lv_at hl 1 rfl) ?_
        refine lv_iconst (v := 0) hx hb d_Obj_take_66 (by decide) ?_
        obtain ⟨σ9, e10, hF⟩ := vL_some hF
        refine pf_Obj_abandoned B hP hD hS h0 (by decide) e10 L_Obj_43 d_Obj_take_67 (fun H locs hP hD hS => ?_)
        refine lv_iload_n hx hb d_Obj_take_70 rfl (lv_at hl 0 rfl) ?_
        obtain ⟨z11, hF⟩ := vC_some hF
        exact ed_rZ B hr hA hP hD hS z11 (vP hF) d_Obj_take_71
    · have hF := vIt c2 hF
      refine lv_aload_n hx hb d_Obj_take_29 rfl (lv_at hl 1 rfl) ?_
      refine lv_dup hx hb d_Obj_take_30 rfl ?_
      refine gf_Obj_value B hP h0 L_Obj_40 d_Obj_take_31 ?_
      refine lv_iconst (v := 1) hx hb d_Obj_take_34 (by decide) ?_
      refine lv_isub hx hb d_Obj_take_35 ?_
      obtain ⟨σ12, e13, hF⟩ := vL_some hF
      refine pf_Obj_value B hP hD hS h0 e13 L_Obj_40 d_Obj_take_36 (fun H locs hP hD hS => ?_)
      refine lv_goto (tgt := 70) hx hb d_Obj_take_39 (by decide) ?_
      refine lv_iload_n hx hb d_Obj_take_70 rfl (lv_at hl 0 rfl) ?_
      obtain ⟨z14, hF⟩ := vC_some hF
      exact ed_rZ B hr hA hP hD hS z14 (vP hF) d_Obj_take_71
  · have hF := vIt c1 hF
    refine lv_aload_n hx hb d_Obj_take_13 rfl (lv_at hl 1 rfl) ?_
    refine lv_iconst (v := 0) hx hb d_Obj_take_14 (by decide) ?_
    obtain ⟨σ15, e16, hF⟩ := vL_some hF
    refine pf_Obj_value B hP hD hS h0 e16 L_Obj_40 d_Obj_take_15 (fun H locs hP hD hS => ?_)
    refine lv_goto (tgt := 70) hx hb d_Obj_take_18 (by decide) ?_
    refine lv_iload_n hx hb d_Obj_take_70 rfl (lv_at hl 0 rfl) ?_
    obtain ⟨z17, hF⟩ := vC_some hF
    exact ed_rZ B hr hA hP hD hS z17 (vP hF) d_Obj_take_71
set_option maxHeartbeats 4000000 in
set_option maxRecDepth 100000 in
theorem C_Obj_take (l : Launch) (D : va_G) (ad : Nat → Nat) (ca : Nat → ClassId) (i0 : Nat) (x1 : Int32) (σ : ed_S) (r : Int32) (σ' : ed_S) (h0 : i0 < 16) (hF : F_Obj_take i0 x1 σ = some (r, σ')) : ed_MI l y_Obj_take ws_Obj_take rm_Obj_take D ca (ed_w ad ca) [.ref (ad (pObj i0)), .int x1] σ r σ' := by
  refine ed_metI (cc := prog_2_method_7_code) (own := "ExecutiveDesk$ObjectState") (nL := 3) (ret := (some .boolean)) (by decide) rfl rfl (Nat.le_of_ble_eq_true rfl) ?_
  intro p e s m args below meth c A B hr hA
  exact T_Obj_take B hr hA i0 x1 σ h0 hF
abbrev ws_Desk_satisfyAll : List Cond := Cond.code y_Desk_satisfyAll prog_1_method_46_code 5 (some .int) :: ed_tb
abbrev rm_Desk_satisfyAll : Room := { frames := 1, cells := 0, slots := 0, locals := 22 }
def F_Desk_satisfyAll_50 : Nat → Int32 → Int32 → Int32 → ed_S → Option (Int32 × ed_S)
  | 0, _, _, _, _ => none
  | n + 1, x1, x2, x3, σ => (if 3 ≤ x3 then (if x2 = 0 then (some (0, σ)) else (some (16, σ))) else (vG x1 8 fun j3 => (vG x3 3 fun j7 => (if (σ 40 j3 j7) = (-1) then ((F_Desk_satisfyAll_50  n) x1 x2 (x3 + 1) σ) else (vG (σ 40 j3 j7) 16 fun j12 => (vB2 (F_Obj_take j12 x1 σ) fun r18 σ16 => (if r18 = 0 then ((F_Desk_satisfyAll_50  n) x1 x2 (x3 + 1) σ16) else ((F_Desk_satisfyAll_50  n) x1 1 (x3 + 1) σ16))))))))
def F_Desk_satisfyAll_2 : Nat → Int32 → Int32 → ed_S → Option (Int32 × ed_S)
  | 0, _, _, _ => none
  | n + 1, x1, x2, σ => (if 3 ≤ x2 then (F_Desk_satisfyAll_50  ed_fu x1 0 0 σ) else (vG x1 8 fun j2 => (vG x2 3 fun j6 => (if (σ 40 j2 j6) = (-1) then ((F_Desk_satisfyAll_2  n) x1 (x2 + 1) σ) else (vG (σ 40 j2 j6) 16 fun j11 => (vB2 (F_Obj_isSignaledFor j11 x1 σ) fun r17 σ15 => (if r17 = 0 then (some ((-10), σ15)) else ((F_Desk_satisfyAll_2  n) x1 (x2 + 1) σ15))))))))
def F_Desk_satisfyAll (x1 : Int32) (σ : ed_S) : Option (Int32 × ed_S) := (F_Desk_satisfyAll_2  ed_fu x1 0 σ)
set_option maxHeartbeats 4000000 in
set_option maxRecDepth 100000 in
theorem T_Desk_satisfyAll_50 {r : Int32} {σ' : ed_S} (B : ed_B p s m args meth c prog_1_method_46_code "ExecutiveDesk" 5 D ca) (hr : meth.sig.returnType = (some .int)) (hA : ∀ q : Nat, s.heap.size ≤ q → A q) : ∀ (n : Nat) (x1 : Int32) (x2 : Int32) (x3 : Int32) (σ : ed_S), F_Desk_satisfyAll_50  n x1 x2 x3 σ = some (r, σ') → ed_G p l e rm_Desk_satisfyAll s m args below meth c D ca (ed_w ad ca) A (ed_QI D ca (ed_w ad ca) A below args s r σ') 5 50 [(0, .ref (ad (pDesk 0))), (1, .int x1), (2, .int x2), (3, .int x3)] [] σ := by
  have hx := B.1
  have hb := B.2.1
  intro n
  induction n with
  | zero => intro x1 x2 x3 σ  hF; exact absurd hF (by intro h; cases h)
  | succ n kk50 =>
    intro x1 x2 x3 σ  hF H locs ls hP hD hS hl
    have hF : (if 3 ≤ x3 then (if x2 = 0 then (some (0, σ)) else (some (16, σ))) else (vG x1 8 fun j3 => (vG x3 3 fun j7 => (if (σ 40 j3 j7) = (-1) then ((F_Desk_satisfyAll_50  n) x1 x2 (x3 + 1) σ) else (vG (σ 40 j3 j7) 16 fun j12 => (vB2 (F_Obj_take j12 x1 σ) fun r18 σ16 => (if r18 = 0 then ((F_Desk_satisfyAll_50  n) x1 x2 (x3 + 1) σ16) else ((F_Desk_satisfyAll_50  n) x1 1 (x3 + 1) σ16)))))))) = some (r, σ') := hF
    refine lv_iload_n hx hb d_Desk_satisfyAll_50 rfl (lv_at hl 3 rfl) ?_
    refine lv_iconst (v := 3) hx hb d_Desk_satisfyAll_51 (by decide) ?_
    refine lv_icmp_ge (tgt := 96) hx hb d_Desk_satisfyAll_52 (by decide) (fun c1 => ?_) (fun c1 => ?_)
    · have hF := vIt c1 hF
      refine lv_iload_n hx hb d_Desk_satisfyAll_96 rfl (lv_at hl 2 rfl) ?_
      refine lv_if_eq (tgt := 105) hx hb d_Desk_satisfyAll_97 (by decide) (fun c2 => ?_) (fun c2 => ?_)
      · have hF := vIt c2 hF
        refine lv_iconst (v := 0) hx hb d_Desk_satisfyAll_105 (by decide) ?_
        exact ed_rI B hr hA hP hD hS (vP hF) d_Desk_satisfyAll_106
      · have hF := vIf c2 hF
        refine lv_bipush (v := 16) hx hb d_Desk_satisfyAll_100 (by decide) ?_
        refine lv_goto (tgt := 106) hx hb d_Desk_satisfyAll_102 (by decide) ?_
        exact ed_rI B hr hA hP hD hS (vP hF) d_Desk_satisfyAll_106
    · have hF := vIf c1 hF
      refine lv_aload_n hx hb d_Desk_satisfyAll_55 rfl (lv_at hl 0 rfl) ?_
      refine gf_Desk_threads B hP (by decide) L_Desk_26 d_Desk_satisfyAll_56 ?_
      refine lv_iload_n hx hb d_Desk_satisfyAll_59 rfl (lv_at hl 1 rfl) ?_
      obtain ⟨j3, ej4, hj5, hn6, hF⟩ := vG_some hF
      refine al_AThr B hP (by decide) hn6 ej4 hj5 d_Desk_satisfyAll_60 ?_
      refine gf_Thr_places B hP hj5 L_Desk_355 d_Desk_satisfyAll_61 ?_
      refine lv_iload_n hx hb d_Desk_satisfyAll_64 rfl (lv_at hl 3 rfl) ?_
      obtain ⟨j7, ej8, hj9, hn10, hF⟩ := vG_some hF
      refine il_Plc B hP hj5 hn10 ej8 d_Desk_satisfyAll_65 ?_
      refine lv_istore (lv' := [(4, .int (σ 40 j3 j7)), (0, .ref (ad (pDesk 0))), (1, .int x1), (2, .int x2), (3, .int x3)]) hx hb d_Desk_satisfyAll_66 hl (by decide) rfl (fun ls hl => ?_)
      refine lv_iload hx hb d_Desk_satisfyAll_68 (lv_at hl 0 rfl) ?_
      refine lv_iconst (v := (-1)) hx hb d_Desk_satisfyAll_70 (by decide) ?_
      refine lv_icmp_eq (tgt := 90) hx hb d_Desk_satisfyAll_71 (by decide) (fun c11 => ?_) (fun c11 => ?_)
      · have hF := vIt c11 hF
        refine lv_iinc (v := (x3 + 1)) (lv' := [(3, .int (x3 + 1)), (4, .int (σ 40 j3 j7)), (0, .ref (ad (pDesk 0))), (1, .int x1), (2, .int x2)]) hx hb d_Desk_satisfyAll_90 hl (k := 4) rfl rfl (by decide) rfl (fun ls hl => ?_)
        refine lv_goto (tgt := 50) hx hb d_Desk_satisfyAll_93 (by decide) ?_
        exact kk50 x1 x2 (x3 + 1) σ  hF _ _ _ hP hD hS (lv_sub hl [2, 3, 4, 0] rfl)
      · have hF := vIf c11 hF
        refine lv_aload_n hx hb d_Desk_satisfyAll_74 rfl (lv_at hl 1 rfl) ?_
        refine gf_Desk_objects B hP (by decide) L_Desk_29 d_Desk_satisfyAll_75 ?_
        refine lv_iload hx hb d_Desk_satisfyAll_78 (lv_at hl 0 rfl) ?_
        obtain ⟨j12, ej13, hj14, hn15, hF⟩ := vG_some hF
        refine al_AObj B hP (by decide) hn15 ej13 hj14 d_Desk_satisfyAll_80 ?_
        refine lv_iload_n hx hb d_Desk_satisfyAll_81 rfl (lv_at hl 2 rfl) ?_
        obtain ⟨r18, σ16, q17, hF⟩ := vB2_some hF
        refine ed_cvI (As := [.int x1]) (rest := []) B hP hD hS hA (C_Obj_take l D ad ca j12 x1 σ r18 σ16 hj14 q17) me_Obj_take mv_Obj_take L_Desk_361 (ed_rc_Obj B hP hj14) ⟨rfl, rfl⟩ ⟨Nat.le_of_ble_eq_true rfl, Nat.le_of_ble_eq_true rfl⟩ rfl rfl hl.1 (lv_room (Nat.le_of_ble_eq_true rfl)) d_Desk_satisfyAll_82 (fun H locs hP hD hS => ?_)
        refine lv_if_eq (tgt := 90) hx hb d_Desk_satisfyAll_85 (by decide) (fun c19 => ?_) (fun c19 => ?_)
        · have hF := vIt c19 hF
          refine lv_iinc (v := (x3 + 1)) (lv' := [(3, .int (x3 + 1)), (4, .int (σ 40 j3 j7)), (0, .ref (ad (pDesk 0))), (1, .int x1), (2, .int x2)]) hx hb d_Desk_satisfyAll_90 hl (k := 4) rfl rfl (by decide) rfl (fun ls hl => ?_)
          refine lv_goto (tgt := 50) hx hb d_Desk_satisfyAll_93 (by decide) ?_
          exact kk50 x1 x2 (x3 + 1) σ16  hF _ _ _ hP hD hS (lv_sub hl [2, 3, 4, 0] rfl)
        · have hF := vIf c19 hF
          refine lv_iconst (v := 1) hx hb d_Desk_satisfyAll_88 (by decide) ?_
          refine lv_istore_n (lv' := [(2, .int 1), (4, .int (σ 40 j3 j7)), (0, .ref (ad (pDesk 0))), (1, .int x1), (3, .int x3)]) hx hb d_Desk_satisfyAll_89 rfl hl (by decide) rfl (fun ls hl => ?_)
          refine lv_iinc (v := (x3 + 1)) (lv' := [(3, .int (x3 + 1)), (2, .int 1), (4, .int (σ 40 j3 j7)), (0, .ref (ad (pDesk 0))), (1, .int x1)]) hx hb d_Desk_satisfyAll_90 hl (k := 4) rfl rfl (by decide) rfl (fun ls hl => ?_)
          refine lv_goto (tgt := 50) hx hb d_Desk_satisfyAll_93 (by decide) ?_
          exact kk50 x1 1 (x3 + 1) σ16  hF _ _ _ hP hD hS (lv_sub hl [3, 4, 1, 0] rfl)
set_option maxHeartbeats 4000000 in
set_option maxRecDepth 100000 in
theorem T_Desk_satisfyAll_2 {r : Int32} {σ' : ed_S} (B : ed_B p s m args meth c prog_1_method_46_code "ExecutiveDesk" 5 D ca) (hr : meth.sig.returnType = (some .int)) (hA : ∀ q : Nat, s.heap.size ≤ q → A q) : ∀ (n : Nat) (x1 : Int32) (x2 : Int32) (σ : ed_S), F_Desk_satisfyAll_2  n x1 x2 σ = some (r, σ') → ed_G p l e rm_Desk_satisfyAll s m args below meth c D ca (ed_w ad ca) A (ed_QI D ca (ed_w ad ca) A below args s r σ') 5 2 [(0, .ref (ad (pDesk 0))), (1, .int x1), (2, .int x2)] [] σ := by
  have hx := B.1
  have hb := B.2.1
  intro n
  induction n with
  | zero => intro x1 x2 σ  hF; exact absurd hF (by intro h; cases h)
  | succ n kk2 =>
    intro x1 x2 σ  hF H locs ls hP hD hS hl
    have hF : (if 3 ≤ x2 then (F_Desk_satisfyAll_50  ed_fu x1 0 0 σ) else (vG x1 8 fun j2 => (vG x2 3 fun j6 => (if (σ 40 j2 j6) = (-1) then ((F_Desk_satisfyAll_2  n) x1 (x2 + 1) σ) else (vG (σ 40 j2 j6) 16 fun j11 => (vB2 (F_Obj_isSignaledFor j11 x1 σ) fun r17 σ15 => (if r17 = 0 then (some ((-10), σ15)) else ((F_Desk_satisfyAll_2  n) x1 (x2 + 1) σ15)))))))) = some (r, σ') := hF
    refine lv_iload_n hx hb d_Desk_satisfyAll_2 rfl (lv_at hl 2 rfl) ?_
    refine lv_iconst (v := 3) hx hb d_Desk_satisfyAll_3 (by decide) ?_
    refine lv_icmp_ge (tgt := 46) hx hb d_Desk_satisfyAll_4 (by decide) (fun c1 => ?_) (fun c1 => ?_)
    · have hF := vIt c1 hF
      refine lv_iconst (v := 0) hx hb d_Desk_satisfyAll_46 (by decide) ?_
      refine lv_istore_n (lv' := [(2, .int 0), (0, .ref (ad (pDesk 0))), (1, .int x1)]) hx hb d_Desk_satisfyAll_47 rfl hl (by decide) rfl (fun ls hl => ?_)
      refine lv_iconst (v := 0) hx hb d_Desk_satisfyAll_48 (by decide) ?_
      refine lv_istore_n (lv' := [(3, .int 0), (2, .int 0), (0, .ref (ad (pDesk 0))), (1, .int x1)]) hx hb d_Desk_satisfyAll_49 rfl hl (by decide) rfl (fun ls hl => ?_)
      exact T_Desk_satisfyAll_50 B hr hA  ed_fu x1 0 0 σ  hF _ _ _ hP hD hS (lv_sub hl [2, 3, 1, 0] rfl)
    · have hF := vIf c1 hF
      refine lv_aload_n hx hb d_Desk_satisfyAll_7 rfl (lv_at hl 0 rfl) ?_
      refine gf_Desk_threads B hP (by decide) L_Desk_26 d_Desk_satisfyAll_8 ?_
      refine lv_iload_n hx hb d_Desk_satisfyAll_11 rfl (lv_at hl 1 rfl) ?_
      obtain ⟨j2, ej3, hj4, hn5, hF⟩ := vG_some hF
      refine al_AThr B hP (by decide) hn5 ej3 hj4 d_Desk_satisfyAll_12 ?_
      refine gf_Thr_places B hP hj4 L_Desk_355 d_Desk_satisfyAll_13 ?_
      refine lv_iload_n hx hb d_Desk_satisfyAll_16 rfl (lv_at hl 2 rfl) ?_
      obtain ⟨j6, ej7, hj8, hn9, hF⟩ := vG_some hF
      refine il_Plc B hP hj4 hn9 ej7 d_Desk_satisfyAll_17 ?_
      refine lv_istore_n (lv' := [(3, .int (σ 40 j2 j6)), (0, .ref (ad (pDesk 0))), (1, .int x1), (2, .int x2)]) hx hb d_Desk_satisfyAll_18 rfl hl (by decide) rfl (fun ls hl => ?_)
      refine lv_iload_n hx hb d_Desk_satisfyAll_19 rfl (lv_at hl 0 rfl) ?_
      refine lv_iconst (v := (-1)) hx hb d_Desk_satisfyAll_20 (by decide) ?_
      refine lv_icmp_eq (tgt := 40) hx hb d_Desk_satisfyAll_21 (by decide) (fun c10 => ?_) (fun c10 => ?_)
      · have hF := vIt c10 hF
        refine lv_iinc (v := (x2 + 1)) (lv' := [(2, .int (x2 + 1)), (3, .int (σ 40 j2 j6)), (0, .ref (ad (pDesk 0))), (1, .int x1)]) hx hb d_Desk_satisfyAll_40 hl (k := 3) rfl rfl (by decide) rfl (fun ls hl => ?_)
        refine lv_goto (tgt := 2) hx hb d_Desk_satisfyAll_43 (by decide) ?_
        exact kk2 x1 (x2 + 1) σ  hF _ _ _ hP hD hS (lv_sub hl [2, 3, 0] rfl)
      · have hF := vIf c10 hF
        refine lv_aload_n hx hb d_Desk_satisfyAll_24 rfl (lv_at hl 1 rfl) ?_
        refine gf_Desk_objects B hP (by decide) L_Desk_29 d_Desk_satisfyAll_25 ?_
        refine lv_iload_n hx hb d_Desk_satisfyAll_28 rfl (lv_at hl 0 rfl) ?_
        obtain ⟨j11, ej12, hj13, hn14, hF⟩ := vG_some hF
        refine al_AObj B hP (by decide) hn14 ej12 hj13 d_Desk_satisfyAll_29 ?_
        refine lv_iload_n hx hb d_Desk_satisfyAll_30 rfl (lv_at hl 2 rfl) ?_
        obtain ⟨r17, σ15, q16, hF⟩ := vB2_some hF
        refine ed_cvI (As := [.int x1]) (rest := []) B hP hD hS hA (C_Obj_isSignaledFor l D ad ca j11 x1 σ r17 σ15 hj13 q16) me_Obj_isSignaledFor mv_Obj_isSignaledFor L_Desk_358 (ed_rc_Obj B hP hj13) ⟨rfl, rfl⟩ ⟨Nat.le_of_ble_eq_true rfl, Nat.le_of_ble_eq_true rfl⟩ rfl rfl hl.1 (lv_room (Nat.le_of_ble_eq_true rfl)) d_Desk_satisfyAll_31 (fun H locs hP hD hS => ?_)
        refine lv_if_ne (tgt := 40) hx hb d_Desk_satisfyAll_34 (by decide) (fun c18 => ?_) (fun c18 => ?_)
        · have hF := vIf c18 hF
          refine lv_iinc (v := (x2 + 1)) (lv' := [(2, .int (x2 + 1)), (3, .int (σ 40 j2 j6)), (0, .ref (ad (pDesk 0))), (1, .int x1)]) hx hb d_Desk_satisfyAll_40 hl (k := 3) rfl rfl (by decide) rfl (fun ls hl => ?_)
          refine lv_goto (tgt := 2) hx hb d_Desk_satisfyAll_43 (by decide) ?_
          exact kk2 x1 (x2 + 1) σ15  hF _ _ _ hP hD hS (lv_sub hl [2, 3, 0] rfl)
        · have hF := vIt c18 hF
          refine lv_bipush (v := (-10)) hx hb d_Desk_satisfyAll_37 (by decide) ?_
          exact ed_rI B hr hA hP hD hS (vP hF) d_Desk_satisfyAll_39
set_option maxHeartbeats 4000000 in
set_option maxRecDepth 100000 in
theorem T_Desk_satisfyAll {r : Int32} {σ' : ed_S} (B : ed_B p s m args meth c prog_1_method_46_code "ExecutiveDesk" 5 D ca) (hr : meth.sig.returnType = (some .int)) (hA : ∀ q : Nat, s.heap.size ≤ q → A q) : ∀ (x1 : Int32) (σ : ed_S), F_Desk_satisfyAll  x1 σ = some (r, σ') → ed_G p l e rm_Desk_satisfyAll s m args below meth c D ca (ed_w ad ca) A (ed_QI D ca (ed_w ad ca) A below args s r σ') 5 0 [(0, .ref (ad (pDesk 0))), (1, .int x1)] [] σ := by
  have hx := B.1
  have hb := B.2.1
  intro x1 σ  hF H locs ls hP hD hS hl
  have hF : (F_Desk_satisfyAll_2  ed_fu x1 0 σ) = some (r, σ') := hF
  refine lv_iconst (v := 0) hx hb d_Desk_satisfyAll_0 (by decide) ?_
  refine lv_istore_n (lv' := [(2, .int 0), (0, .ref (ad (pDesk 0))), (1, .int x1)]) hx hb d_Desk_satisfyAll_1 rfl hl (by decide) rfl (fun ls hl => ?_)
  exact T_Desk_satisfyAll_2 B hr hA  ed_fu x1 0 σ  hF _ _ _ hP hD hS (lv_sub hl [1, 2, 0] rfl)
set_option maxHeartbeats 4000000 in
set_option maxRecDepth 100000 in
theorem C_Desk_satisfyAll (l : Launch) (D : va_G) (ad : Nat → Nat) (ca : Nat → ClassId) (x1 : Int32) (σ : ed_S) (r : Int32) (σ' : ed_S) (hF : F_Desk_satisfyAll x1 σ = some (r, σ')) : ed_MI l y_Desk_satisfyAll ws_Desk_satisfyAll rm_Desk_satisfyAll D ca (ed_w ad ca) [.ref (ad (pDesk 0)), .int x1] σ r σ' := by
  refine ed_metI (cc := prog_1_method_46_code) (own := "ExecutiveDesk") (nL := 5) (ret := (some .int)) (by decide) rfl rfl (Nat.le_of_ble_eq_true rfl) ?_
  intro p e s m args below meth c A B hr hA
  exact T_Desk_satisfyAll B hr hA x1 σ  hF
abbrev ws_Desk_satisfyAny : List Cond := Cond.code y_Desk_satisfyAny prog_1_method_45_code 4 (some .int) :: ed_tb
abbrev rm_Desk_satisfyAny : Room := { frames := 1, cells := 0, slots := 0, locals := 22 }
def F_Desk_satisfyAny_2 : Nat → Int32 → Int32 → ed_S → Option (Int32 × ed_S)
  | 0, _, _, _ => none
  | n + 1, x1, x2, σ => (if 3 ≤ x2 then (some ((-10), σ)) else (vG x1 8 fun j2 => (vG x2 3 fun j6 => (if (σ 40 j2 j6) = (-1) then ((F_Desk_satisfyAny_2  n) x1 (x2 + 1) σ) else (vG (σ 40 j2 j6) 16 fun j11 => (vB2 (F_Obj_isSignaledFor j11 x1 σ) fun r17 σ15 => (if r17 = 0 then ((F_Desk_satisfyAny_2  n) x1 (x2 + 1) σ15) else (vG (σ 40 j2 j6) 16 fun j19 => (vB2 (F_Obj_take j19 x1 σ15) fun r25 σ23 => (if r25 = 0 then (some (x2, σ23)) else (some ((x2 + 16), σ23))))))))))))
def F_Desk_satisfyAny (x1 : Int32) (σ : ed_S) : Option (Int32 × ed_S) := (F_Desk_satisfyAny_2  ed_fu x1 0 σ)
set_option maxHeartbeats 4000000 in
set_option maxRecDepth 100000 in
theorem T_Desk_satisfyAny_2 {r : Int32} {σ' : ed_S} (B : ed_B p s m args meth c prog_1_method_45_code "ExecutiveDesk" 4 D ca) (hr : meth.sig.returnType = (some .int)) (hA : ∀ q : Nat, s.heap.size ≤ q → A q) : ∀ (n : Nat) (x1 : Int32) (x2 : Int32) (σ : ed_S), F_Desk_satisfyAny_2  n x1 x2 σ = some (r, σ') → ed_G p l e rm_Desk_satisfyAny s m args below meth c D ca (ed_w ad ca) A (ed_QI D ca (ed_w ad ca) A below args s r σ') 4 2 [(0, .ref (ad (pDesk 0))), (1, .int x1), (2, .int x2)] [] σ := by
  have hx := B.1
  have hb := B.2.1
  intro n
  induction n with
  | zero => intro x1 x2 σ  hF; exact absurd hF (by intro h; cases h)
  | succ n kk2 =>
    intro x1 x2 σ  hF H locs ls hP hD hS hl
    have hF : (if 3 ≤ x2 then (some ((-10), σ)) else (vG x1 8 fun j2 => (vG x2 3 fun j6 => (if (σ 40 j2 j6) = (-1) then ((F_Desk_satisfyAny_2  n) x1 (x2 + 1) σ) else (vG (σ 40 j2 j6) 16 fun j11 => (vB2 (F_Obj_isSignaledFor j11 x1 σ) fun r17 σ15 => (if r17 = 0 then ((F_Desk_satisfyAny_2  n) x1 (x2 + 1) σ15) else (vG (σ 40 j2 j6) 16 fun j19 => (vB2 (F_Obj_take j19 x1 σ15) fun r25 σ23 => (if r25 = 0 then (some (x2, σ23)) else (some ((x2 + 16), σ23)))))))))))) = some (r, σ') := hF
    refine lv_iload_n hx hb d_Desk_satisfyAny_2 rfl (lv_at hl 2 rfl) ?_
    refine lv_iconst (v := 3) hx hb d_Desk_satisfyAny_3 (by decide) ?_
    refine lv_icmp_ge (tgt := 65) hx hb d_Desk_satisfyAny_4 (by decide) (fun c1 => ?_) (fun c1 => ?_)
    · have hF := vIt c1 hF
      refine lv_bipush (v := (-10)) hx hb d_Desk_satisfyAny_65 (by decide) ?_
      exact ed_rI B hr hA hP hD hS (vP hF) d_Desk_satisfyAny_67
    · have hF := vIf c1 hF
      refine lv_aload_n hx hb d_Desk_satisfyAny_7 rfl (lv_at hl 0 rfl) ?_
      refine gf_Desk_threads B hP (by decide) L_Desk_26 d_Desk_satisfyAny_8 ?_
      refine lv_iload_n hx hb d_Desk_satisfyAny_11 rfl (lv_at hl 1 rfl) ?_
      obtain ⟨j2, ej3, hj4, hn5, hF⟩ := vG_some hF
      refine al_AThr B hP (by decide) hn5 ej3 hj4 d_Desk_satisfyAny_12 ?_
      refine gf_Thr_places B hP hj4 L_Desk_355 d_Desk_satisfyAny_13 ?_
      refine lv_iload_n hx hb d_Desk_satisfyAny_16 rfl (lv_at hl 2 rfl) ?_
      obtain ⟨j6, ej7, hj8, hn9, hF⟩ := vG_some hF
      refine il_Plc B hP hj4 hn9 ej7 d_Desk_satisfyAny_17 ?_
      refine lv_istore_n (lv' := [(3, .int (σ 40 j2 j6)), (0, .ref (ad (pDesk 0))), (1, .int x1), (2, .int x2)]) hx hb d_Desk_satisfyAny_18 rfl hl (by decide) rfl (fun ls hl => ?_)
      refine lv_iload_n hx hb d_Desk_satisfyAny_19 rfl (lv_at hl 0 rfl) ?_
      refine lv_iconst (v := (-1)) hx hb d_Desk_satisfyAny_20 (by decide) ?_
      refine lv_icmp_eq (tgt := 59) hx hb d_Desk_satisfyAny_21 (by decide) (fun c10 => ?_) (fun c10 => ?_)
      · have hF := vIt c10 hF
        refine lv_iinc (v := (x2 + 1)) (lv' := [(2, .int (x2 + 1)), (3, .int (σ 40 j2 j6)), (0, .ref (ad (pDesk 0))), (1, .int x1)]) hx hb d_Desk_satisfyAny_59 hl (k := 3) rfl rfl (by decide) rfl (fun ls hl => ?_)
        refine lv_goto (tgt := 2) hx hb d_Desk_satisfyAny_62 (by decide) ?_
        exact kk2 x1 (x2 + 1) σ  hF _ _ _ hP hD hS (lv_sub hl [2, 3, 0] rfl)
      · have hF := vIf c10 hF
        refine lv_aload_n hx hb d_Desk_satisfyAny_24 rfl (lv_at hl 1 rfl) ?_
        refine gf_Desk_objects B hP (by decide) L_Desk_29 d_Desk_satisfyAny_25 ?_
        refine lv_iload_n hx hb d_Desk_satisfyAny_28 rfl (lv_at hl 0 rfl) ?_
        obtain ⟨j11, ej12, hj13, hn14, hF⟩ := vG_some hF
        refine al_AObj B hP (by decide) hn14 ej12 hj13 d_Desk_satisfyAny_29 ?_
        refine lv_iload_n hx hb d_Desk_satisfyAny_30 rfl (lv_at hl 2 rfl) ?_
        obtain ⟨r17, σ15, q16, hF⟩ := vB2_some hF
        refine ed_cvI (As := [.int x1]) (rest := []) B hP hD hS hA (C_Obj_isSignaledFor l D ad ca j11 x1 σ r17 σ15 hj13 q16) me_Obj_isSignaledFor mv_Obj_isSignaledFor L_Desk_358 (ed_rc_Obj B hP hj13) ⟨rfl, rfl⟩ ⟨Nat.le_of_ble_eq_true rfl, Nat.le_of_ble_eq_true rfl⟩ rfl rfl hl.1 (lv_room (Nat.le_of_ble_eq_true rfl)) d_Desk_satisfyAny_31 (fun H locs hP hD hS => ?_)
        refine lv_if_eq (tgt := 59) hx hb d_Desk_satisfyAny_34 (by decide) (fun c18 => ?_) (fun c18 => ?_)
        · have hF := vIt c18 hF
          refine lv_iinc (v := (x2 + 1)) (lv' := [(2, .int (x2 + 1)), (3, .int (σ 40 j2 j6)), (0, .ref (ad (pDesk 0))), (1, .int x1)]) hx hb d_Desk_satisfyAny_59 hl (k := 3) rfl rfl (by decide) rfl (fun ls hl => ?_)
          refine lv_goto (tgt := 2) hx hb d_Desk_satisfyAny_62 (by decide) ?_
          exact kk2 x1 (x2 + 1) σ15  hF _ _ _ hP hD hS (lv_sub hl [2, 3, 0] rfl)
        · have hF := vIf c18 hF
          refine lv_aload_n hx hb d_Desk_satisfyAny_37 rfl (lv_at hl 1 rfl) ?_
          refine gf_Desk_objects B hP (by decide) L_Desk_29 d_Desk_satisfyAny_38 ?_
          refine lv_iload_n hx hb d_Desk_satisfyAny_41 rfl (lv_at hl 0 rfl) ?_
          obtain ⟨j19, ej20, hj21, hn22, hF⟩ := vG_some hF
          refine al_AObj B hP (by decide) hn22 ej20 hj21 d_Desk_satisfyAny_42 ?_
          refine lv_iload_n hx hb d_Desk_satisfyAny_43 rfl (lv_at hl 2 rfl) ?_
          obtain ⟨r25, σ23, q24, hF⟩ := vB2_some hF
          refine ed_cvI (As := [.int x1]) (rest := []) B hP hD hS hA (C_Obj_take l D ad ca j19 x1 σ15 r25 σ23 hj21 q24) me_Obj_take mv_Obj_take L_Desk_361 (ed_rc_Obj B hP hj21) ⟨rfl, rfl⟩ ⟨Nat.le_of_ble_eq_true rfl, Nat.le_of_ble_eq_true rfl⟩ rfl rfl hl.1 (lv_room (Nat.le_of_ble_eq_true rfl)) d_Desk_satisfyAny_44 (fun H locs hP hD hS => ?_)
          refine lv_if_eq (tgt := 57) hx hb d_Desk_satisfyAny_47 (by decide) (fun c26 => ?_) (fun c26 => ?_)
          · have hF := vIt c26 hF
            refine lv_iload_n hx hb d_Desk_satisfyAny_57 rfl (lv_at hl 3 rfl) ?_
            exact ed_rI B hr hA hP hD hS (vP hF) d_Desk_satisfyAny_58
          · have hF := vIf c26 hF
            refine lv_iload_n hx hb d_Desk_satisfyAny_50 rfl (lv_at hl 3 rfl) ?_
            refine lv_bipush (v := 16) hx hb d_Desk_satisfyAny_51 (by decide) ?_
            refine lv_iadd hx hb d_Desk_satisfyAny_53 ?_
            refine lv_goto (tgt := 58) hx hb d_Desk_satisfyAny_54 (by decide) ?_
            exact ed_rI B hr hA hP hD hS (vP hF) d_Desk_satisfyAny_58
set_option maxHeartbeats 4000000 in
set_option maxRecDepth 100000 in
theorem T_Desk_satisfyAny {r : Int32} {σ' : ed_S} (B : ed_B p s m args meth c prog_1_method_45_code "ExecutiveDesk" 4 D ca) (hr : meth.sig.returnType = (some .int)) (hA : ∀ q : Nat, s.heap.size ≤ q → A q) : ∀ (x1 : Int32) (σ : ed_S), F_Desk_satisfyAny  x1 σ = some (r, σ') → ed_G p l e rm_Desk_satisfyAny s m args below meth c D ca (ed_w ad ca) A (ed_QI D ca (ed_w ad ca) A below args s r σ') 4 0 [(0, .ref (ad (pDesk 0))), (1, .int x1)] [] σ := by
  have hx := B.1
  have hb := B.2.1
  intro x1 σ  hF H locs ls hP hD hS hl
  have hF : (F_Desk_satisfyAny_2  ed_fu x1 0 σ) = some (r, σ') := hF
  refine lv_iconst (v := 0) hx hb d_Desk_satisfyAny_0 (by decide) ?_
  refine lv_istore_n (lv' := [(2, .int 0), (0, .ref (ad (pDesk 0))), (1, .int x1)]) hx hb d_Desk_satisfyAny_1 rfl hl (by decide) rfl (fun ls hl => ?_)
  exact T_Desk_satisfyAny_2 B hr hA  ed_fu x1 0 σ  hF _ _ _ hP hD hS (lv_sub hl [1, 2, 0] rfl)
set_option maxHeartbeats 4000000 in
set_option maxRecDepth 100000 in
theorem C_Desk_satisfyAny (l : Launch) (D : va_G) (ad : Nat → Nat) (ca : Nat → ClassId) (x1 : Int32) (σ : ed_S) (r : Int32) (σ' : ed_S) (hF : F_Desk_satisfyAny x1 σ = some (r, σ')) : ed_MI l y_Desk_satisfyAny ws_Desk_satisfyAny rm_Desk_satisfyAny D ca (ed_w ad ca) [.ref (ad (pDesk 0)), .int x1] σ r σ' := by
  refine ed_metI (cc := prog_1_method_45_code) (own := "ExecutiveDesk") (nL := 4) (ret := (some .int)) (by decide) rfl rfl (Nat.le_of_ble_eq_true rfl) ?_
  intro p e s m args below meth c A B hr hA
  exact T_Desk_satisfyAny B hr hA x1 σ  hF
abbrev ws_Desk_satisfy : List Cond := Cond.code y_Desk_satisfy prog_1_method_44_code 2 (some .int) :: ed_tb
abbrev rm_Desk_satisfy : Room := { frames := 2, cells := 0, slots := 0, locals := 46 }
def F_Desk_satisfy (x1 : Int32) (σ : ed_S) : Option (Int32 × ed_S) := (vG x1 8 fun j1 => (if (σ 15 j1 0) = 0 then (vB2 (F_Desk_satisfyAny x1 σ) fun r8 σ6 => (some (r8, σ6))) else (vB2 (F_Desk_satisfyAll x1 σ) fun r11 σ9 => (some (r11, σ9)))))
set_option maxHeartbeats 4000000 in
set_option maxRecDepth 100000 in
theorem T_Desk_satisfy {r : Int32} {σ' : ed_S} (B : ed_B p s m args meth c prog_1_method_44_code "ExecutiveDesk" 2 D ca) (hr : meth.sig.returnType = (some .int)) (hA : ∀ q : Nat, s.heap.size ≤ q → A q) : ∀ (x1 : Int32) (σ : ed_S), F_Desk_satisfy  x1 σ = some (r, σ') → ed_G p l e rm_Desk_satisfy s m args below meth c D ca (ed_w ad ca) A (ed_QI D ca (ed_w ad ca) A below args s r σ') 2 0 [(0, .ref (ad (pDesk 0))), (1, .int x1)] [] σ := by
  have hx := B.1
  have hb := B.2.1
  intro x1 σ  hF H locs ls hP hD hS hl
  have hF : (vG x1 8 fun j1 => (if (σ 15 j1 0) = 0 then (vB2 (F_Desk_satisfyAny x1 σ) fun r8 σ6 => (some (r8, σ6))) else (vB2 (F_Desk_satisfyAll x1 σ) fun r11 σ9 => (some (r11, σ9))))) = some (r, σ') := hF
  refine lv_aload_n hx hb d_Desk_satisfy_0 rfl (lv_at hl 0 rfl) ?_
  refine gf_Desk_threads B hP (by decide) L_Desk_26 d_Desk_satisfy_1 ?_
  refine lv_iload_n hx hb d_Desk_satisfy_4 rfl (lv_at hl 1 rfl) ?_
  obtain ⟨j1, ej2, hj3, hn4, hF⟩ := vG_some hF
  refine al_AThr B hP (by decide) hn4 ej2 hj3 d_Desk_satisfy_5 ?_
  refine gf_Thr_wantsAll B hP hj3 L_Desk_346 d_Desk_satisfy_6 ?_
  refine lv_if_eq (tgt := 20) hx hb d_Desk_satisfy_9 (by decide) (fun c5 => ?_) (fun c5 => ?_)
  · have hF := vIt c5 hF
    refine lv_aload_n hx hb d_Desk_satisfy_20 rfl (lv_at hl 0 rfl) ?_
    refine lv_iload_n hx hb d_Desk_satisfy_21 rfl (lv_at hl 1 rfl) ?_
    obtain ⟨r8, σ6, q7, hF⟩ := vB2_some hF
    refine ed_cvI (As := [.int x1]) (rest := []) B hP hD hS hA (C_Desk_satisfyAny l D ad ca x1 σ r8 σ6  q7) me_Desk_satisfyAny mv_Desk_satisfyAny L_Desk_352 (ed_rc_Desk B hP (by decide)) ⟨rfl, rfl⟩ ⟨Nat.le_of_ble_eq_true rfl, Nat.le_of_ble_eq_true rfl⟩ rfl rfl hl.1 (lv_room (Nat.le_of_ble_eq_true rfl)) d_Desk_satisfy_22 (fun H locs hP hD hS => ?_)
    exact ed_rI B hr hA hP hD hS (vP hF) d_Desk_satisfy_25
  · have hF := vIf c5 hF
    refine lv_aload_n hx hb d_Desk_satisfy_12 rfl (lv_at hl 0 rfl) ?_
    refine lv_iload_n hx hb d_Desk_satisfy_13 rfl (lv_at hl 1 rfl) ?_
    obtain ⟨r11, σ9, q10, hF⟩ := vB2_some hF
    refine ed_cvI (As := [.int x1]) (rest := []) B hP hD hS hA (C_Desk_satisfyAll l D ad ca x1 σ r11 σ9  q10) me_Desk_satisfyAll mv_Desk_satisfyAll L_Desk_349 (ed_rc_Desk B hP (by decide)) ⟨rfl, rfl⟩ ⟨Nat.le_of_ble_eq_true rfl, Nat.le_of_ble_eq_true rfl⟩ rfl rfl hl.1 (lv_room (Nat.le_of_ble_eq_true rfl)) d_Desk_satisfy_14 (fun H locs hP hD hS => ?_)
    refine lv_goto (tgt := 25) hx hb d_Desk_satisfy_17 (by decide) ?_
    exact ed_rI B hr hA hP hD hS (vP hF) d_Desk_satisfy_25
set_option maxHeartbeats 4000000 in
set_option maxRecDepth 100000 in
theorem C_Desk_satisfy (l : Launch) (D : va_G) (ad : Nat → Nat) (ca : Nat → ClassId) (x1 : Int32) (σ : ed_S) (r : Int32) (σ' : ed_S) (hF : F_Desk_satisfy x1 σ = some (r, σ')) : ed_MI l y_Desk_satisfy ws_Desk_satisfy rm_Desk_satisfy D ca (ed_w ad ca) [.ref (ad (pDesk 0)), .int x1] σ r σ' := by
  refine ed_metI (cc := prog_1_method_44_code) (own := "ExecutiveDesk") (nL := 2) (ret := (some .int)) (by decide) rfl rfl (Nat.le_of_ble_eq_true rfl) ?_
  intro p e s m args below meth c A B hr hA
  exact T_Desk_satisfy B hr hA x1 σ  hF
abbrev ws_Row_removeValue : List Cond := Cond.code y_Row_removeValue prog_4_method_7_code 4 none :: ed_tb
abbrev rm_Row_removeValue : Room := { frames := 0, cells := 0, slots := 0, locals := 0 }
def F_Row_removeValue_4 : Nat → Nat → Int32 → Int32 → Int32 → ed_S → Option ed_S
  | 0, _, _, _, _, _ => none
  | n + 1, i0, x1, x2, x3, σ => (if (σ 18 i0 0) ≤ x3 then (vL (ed_st σ 18 i0 0 x2) fun σ2 => (some σ2)) else (vG x3 (ed_cap i0) fun j4 => (if (σ 39 i0 j4) = x1 then ((F_Row_removeValue_4  n) i0 x1 x2 (x3 + 1) σ) else (vG x3 (ed_cap i0) fun j9 => (vG x2 (ed_cap i0) fun j13 => vL (ed_st σ 39 i0 j13 (σ 39 i0 j9)) fun σ17 => ((F_Row_removeValue_4  n) i0 x1 (x2 + 1) (x3 + 1) σ17))))))
def F_Row_removeValue (i0 : Nat) (x1 : Int32) (σ : ed_S) : Option ed_S := (F_Row_removeValue_4  ed_fu i0 x1 0 0 σ)
set_option maxHeartbeats 4000000 in
set_option maxRecDepth 100000 in
theorem T_Row_removeValue_4 {σ' : ed_S} (B : ed_B p s m args meth c prog_4_method_7_code "ExecutiveDesk$Row" 4 D ca) (hr : meth.sig.returnType = none) (hA : ∀ q : Nat, s.heap.size ≤ q → A q) : ∀ (n : Nat) (i0 : Nat) (x1 : Int32) (x2 : Int32) (x3 : Int32) (σ : ed_S), i0 < 34 → F_Row_removeValue_4  n i0 x1 x2 x3 σ = some σ' → ed_G p l e rm_Row_removeValue s m args below meth c D ca (ed_w ad ca) A (ed_QV D ca (ed_w ad ca) A below args s σ') 4 4 [(0, .ref (ad (pRow i0))), (1, .int x1), (2, .int x2), (3, .int x3)] [] σ := by
  have hx := B.1
  have hb := B.2.1
  intro n
  induction n with
  | zero => intro i0 x1 x2 x3 σ h0 hF; exact absurd hF (by intro h; cases h)
  | succ n kk4 =>
    intro i0 x1 x2 x3 σ h0 hF H locs ls hP hD hS hl
    have hF : (if (σ 18 i0 0) ≤ x3 then (vL (ed_st σ 18 i0 0 x2) fun σ2 => (some σ2)) else (vG x3 (ed_cap i0) fun j4 => (if (σ 39 i0 j4) = x1 then ((F_Row_removeValue_4  n) i0 x1 x2 (x3 + 1) σ) else (vG x3 (ed_cap i0) fun j9 => (vG x2 (ed_cap i0) fun j13 => vL (ed_st σ 39 i0 j13 (σ 39 i0 j9)) fun σ17 => ((F_Row_removeValue_4  n) i0 x1 (x2 + 1) (x3 + 1) σ17)))))) = some σ' := hF
    refine lv_iload_n hx hb d_Row_removeValue_4 rfl (lv_at hl 3 rfl) ?_
    refine lv_aload_n hx hb d_Row_removeValue_5 rfl (lv_at hl 0 rfl) ?_
    refine gf_Row_size B hP h0 L_Row_15 d_Row_removeValue_6 ?_
    refine lv_icmp_ge (tgt := 43) hx hb d_Row_removeValue_9 (by decide) (fun c1 => ?_) (fun c1 => ?_)
    · have hF := vIt c1 hF
      refine lv_aload_n hx hb d_Row_removeValue_43 rfl (lv_at hl 0 rfl) ?_
      refine lv_iload_n hx hb d_Row_removeValue_44 rfl (lv_at hl 2 rfl) ?_
      obtain ⟨σ2, e3, hF⟩ := vL_some hF
      refine pf_Row_size B hP hD hS h0 e3 L_Row_15 d_Row_removeValue_45 (fun H locs hP hD hS => ?_)
      exact ed_rV B hr hA hP hD hS (Option.some.inj hF) d_Row_removeValue_48
    · have hF := vIf c1 hF
      refine lv_aload_n hx hb d_Row_removeValue_12 rfl (lv_at hl 0 rfl) ?_
      refine gf_Row_items B hP h0 L_Row_9 d_Row_removeValue_13 ?_
      refine lv_iload_n hx hb d_Row_removeValue_16 rfl (lv_at hl 3 rfl) ?_
      obtain ⟨j4, ej5, hj6, hn7, hF⟩ := vG_some hF
      refine il_Itm B hP h0 hn7 ej5 d_Row_removeValue_17 ?_
      refine lv_iload_n hx hb d_Row_removeValue_18 rfl (lv_at hl 1 rfl) ?_
      refine lv_icmp_eq (tgt := 37) hx hb d_Row_removeValue_19 (by decide) (fun c8 => ?_) (fun c8 => ?_)
      · have hF := vIt c8 hF
        refine lv_iinc (v := (x3 + 1)) (lv' := [(3, .int (x3 + 1)), (0, .ref (ad (pRow i0))), (1, .int x1), (2, .int x2)]) hx hb d_Row_removeValue_37 hl (k := 3) rfl rfl (by decide) rfl (fun ls hl => ?_)
        refine lv_goto (tgt := 4) hx hb d_Row_removeValue_40 (by decide) ?_
        exact kk4 i0 x1 x2 (x3 + 1) σ h0 hF _ _ _ hP hD hS (lv_sub hl [1, 2, 3, 0] rfl)
      · have hF := vIf c8 hF
        refine lv_aload_n hx hb d_Row_removeValue_22 rfl (lv_at hl 0 rfl) ?_
        refine gf_Row_items B hP h0 L_Row_9 d_Row_removeValue_23 ?_
        refine lv_iload_n hx hb d_Row_removeValue_26 rfl (lv_at hl 2 rfl) ?_
        refine lv_aload_n hx hb d_Row_removeValue_27 rfl (lv_at hl 0 rfl) ?_
        refine gf_Row_items B hP h0 L_Row_9 d_Row_removeValue_28 ?_
        refine lv_iload_n hx hb d_Row_removeValue_31 rfl (lv_at hl 3 rfl) ?_
        obtain ⟨j9, ej10, hj11, hn12, hF⟩ := vG_some hF
        refine il_Itm B hP h0 hn12 ej10 d_Row_removeValue_32 ?_
        obtain ⟨j13, ej14, hj15, hn16, hF⟩ := vG_some hF
        obtain ⟨σ17, e18, hF⟩ := vL_some hF
        refine is_Itm B hP hD hS h0 hn16 ej14 e18 d_Row_removeValue_33 (fun H locs hP hD hS => ?_)
        refine lv_iinc (v := (x2 + 1)) (lv' := [(2, .int (x2 + 1)), (0, .ref (ad (pRow i0))), (1, .int x1), (3, .int x3)]) hx hb d_Row_removeValue_34 hl (k := 2) rfl rfl (by decide) rfl (fun ls hl => ?_)
        refine lv_iinc (v := (x3 + 1)) (lv' := [(3, .int (x3 + 1)), (2, .int (x2 + 1)), (0, .ref (ad (pRow i0))), (1, .int x1)]) hx hb d_Row_removeValue_37 hl (k := 3) rfl rfl (by decide) rfl (fun ls hl => ?_)
        refine lv_goto (tgt := 4) hx hb d_Row_removeValue_40 (by decide) ?_
        exact kk4 i0 x1 (x2 + 1) (x3 + 1) σ17 h0 hF _ _ _ hP hD hS (lv_sub hl [2, 3, 1, 0] rfl)
set_option maxHeartbeats 4000000 in
set_option maxRecDepth 100000 in
theorem T_Row_removeValue {σ' : ed_S} (B : ed_B p s m args meth c prog_4_method_7_code "ExecutiveDesk$Row" 4 D ca) (hr : meth.sig.returnType = none) (hA : ∀ q : Nat, s.heap.size ≤ q → A q) : ∀ (i0 : Nat) (x1 : Int32) (σ : ed_S), i0 < 34 → F_Row_removeValue  i0 x1 σ = some σ' → ed_G p l e rm_Row_removeValue s m args below meth c D ca (ed_w ad ca) A (ed_QV D ca (ed_w ad ca) A below args s σ') 4 0 [(0, .ref (ad (pRow i0))), (1, .int x1)] [] σ := by
  have hx := B.1
  have hb := B.2.1
  intro i0 x1 σ h0 hF H locs ls hP hD hS hl
  have hF : (F_Row_removeValue_4  ed_fu i0 x1 0 0 σ) = some σ' := hF
  refine lv_iconst (v := 0) hx hb d_Row_removeValue_0 (by decide) ?_
  refine lv_istore_n (lv' := [(2, .int 0), (0, .ref (ad (pRow i0))), (1, .int x1)]) hx hb d_Row_removeValue_1 rfl hl (by decide) rfl (fun ls hl => ?_)
  refine lv_iconst (v := 0) hx hb d_Row_removeValue_2 (by decide) ?_
  refine lv_istore_n (lv' := [(3, .int 0), (2, .int 0), (0, .ref (ad (pRow i0))), (1, .int x1)]) hx hb d_Row_removeValue_3 rfl hl (by decide) rfl (fun ls hl => ?_)
  exact T_Row_removeValue_4 B hr hA  ed_fu i0 x1 0 0 σ h0 hF _ _ _ hP hD hS (lv_sub hl [2, 3, 1, 0] rfl)
set_option maxHeartbeats 4000000 in
set_option maxRecDepth 100000 in
theorem C_Row_removeValue (l : Launch) (D : va_G) (ad : Nat → Nat) (ca : Nat → ClassId) (i0 : Nat) (x1 : Int32) (σ : ed_S) (σ' : ed_S) (h0 : i0 < 34) (hF : F_Row_removeValue i0 x1 σ = some σ') : ed_MV l y_Row_removeValue ws_Row_removeValue rm_Row_removeValue D ca (ed_w ad ca) [.ref (ad (pRow i0)), .int x1] σ σ' := by
  refine ed_metV (cc := prog_4_method_7_code) (own := "ExecutiveDesk$Row") (nL := 4) (ret := none) (by decide) rfl rfl (Nat.le_of_ble_eq_true rfl) ?_
  intro p e s m args below meth c A B hr hA
  exact T_Row_removeValue B hr hA i0 x1 σ h0 hF
abbrev ws_Desk_pointToPlacesOf : List Cond := Cond.code y_Desk_pointToPlacesOf prog_1_method_49_code 5 none :: ed_tb
abbrev rm_Desk_pointToPlacesOf : Room := { frames := 0, cells := 0, slots := 0, locals := 0 }
def F_Desk_pointToPlacesOf_2 : Nat → Nat → Int32 → Int32 → ed_S → Option ed_S
  | 0, _, _, _, _ => none
  | n + 1, i1, x2, x3, σ => (if 3 ≤ x3 then (some σ) else (vG x3 3 fun j2 => (if (σ 40 i1 j2) = (-1) then ((F_Desk_pointToPlacesOf_2  n) i1 x2 (x3 + 1) σ) else (vG (σ 40 i1 j2) 16 fun j7 => (vL (ed_st σ 25 j7 0 ((σ 25 j7 0) + x2)) fun σ11 => ((F_Desk_pointToPlacesOf_2  n) i1 x2 (x3 + 1) σ11))))))
def F_Desk_pointToPlacesOf (i1 : Nat) (x2 : Int32) (σ : ed_S) : Option ed_S := (F_Desk_pointToPlacesOf_2  ed_fu i1 x2 0 σ)
set_option maxHeartbeats 4000000 in
set_option maxRecDepth 100000 in
theorem T_Desk_pointToPlacesOf_2 {σ' : ed_S} (B : ed_B p s m args meth c prog_1_method_49_code "ExecutiveDesk" 5 D ca) (hr : meth.sig.returnType = none) (hA : ∀ q : Nat, s.heap.size ≤ q → A q) : ∀ (n : Nat) (i1 : Nat) (x2 : Int32) (x3 : Int32) (σ : ed_S), i1 < 8 → F_Desk_pointToPlacesOf_2  n i1 x2 x3 σ = some σ' → ed_G p l e rm_Desk_pointToPlacesOf s m args below meth c D ca (ed_w ad ca) A (ed_QV D ca (ed_w ad ca) A below args s σ') 5 2 [(0, .ref (ad (pDesk 0))), (1, .ref (ad (pThr i1))), (2, .int x2), (3, .int x3)] [] σ := by
  have hx := B.1
  have hb := B.2.1
  intro n
  induction n with
  | zero => intro i1 x2 x3 σ h1 hF; exact absurd hF (by intro h; cases h)
  | succ n kk2 =>
    intro i1 x2 x3 σ h1 hF H locs ls hP hD hS hl
    have hF : (if 3 ≤ x3 then (some σ) else (vG x3 3 fun j2 => (if (σ 40 i1 j2) = (-1) then ((F_Desk_pointToPlacesOf_2  n) i1 x2 (x3 + 1) σ) else (vG (σ 40 i1 j2) 16 fun j7 => (vL (ed_st σ 25 j7 0 ((σ 25 j7 0) + x2)) fun σ11 => ((F_Desk_pointToPlacesOf_2  n) i1 x2 (x3 + 1) σ11)))))) = some σ' := hF
    refine lv_iload_n hx hb d_Desk_pointToPlacesOf_2 rfl (lv_at hl 3 rfl) ?_
    refine lv_iconst (v := 3) hx hb d_Desk_pointToPlacesOf_3 (by decide) ?_
    refine lv_icmp_ge (tgt := 43) hx hb d_Desk_pointToPlacesOf_4 (by decide) (fun c1 => ?_) (fun c1 => ?_)
    · have hF := vIt c1 hF
      exact ed_rV B hr hA hP hD hS (Option.some.inj hF) d_Desk_pointToPlacesOf_43
    · have hF := vIf c1 hF
      refine lv_aload_n hx hb d_Desk_pointToPlacesOf_7 rfl (lv_at hl 1 rfl) ?_
      refine gf_Thr_places B hP h1 L_Desk_355 d_Desk_pointToPlacesOf_8 ?_
      refine lv_iload_n hx hb d_Desk_pointToPlacesOf_11 rfl (lv_at hl 3 rfl) ?_
      obtain ⟨j2, ej3, hj4, hn5, hF⟩ := vG_some hF
      refine il_Plc B hP h1 hn5 ej3 d_Desk_pointToPlacesOf_12 ?_
      refine lv_istore (lv' := [(4, .int (σ 40 i1 j2)), (0, .ref (ad (pDesk 0))), (1, .ref (ad (pThr i1))), (2, .int x2), (3, .int x3)]) hx hb d_Desk_pointToPlacesOf_13 hl (by decide) rfl (fun ls hl => ?_)
      refine lv_iload hx hb d_Desk_pointToPlacesOf_15 (lv_at hl 0 rfl) ?_
      refine lv_iconst (v := (-1)) hx hb d_Desk_pointToPlacesOf_17 (by decide) ?_
      refine lv_icmp_eq (tgt := 37) hx hb d_Desk_pointToPlacesOf_18 (by decide) (fun c6 => ?_) (fun c6 => ?_)
      · have hF := vIt c6 hF
        refine lv_iinc (v := (x3 + 1)) (lv' := [(3, .int (x3 + 1)), (4, .int (σ 40 i1 j2)), (0, .ref (ad (pDesk 0))), (1, .ref (ad (pThr i1))), (2, .int x2)]) hx hb d_Desk_pointToPlacesOf_37 hl (k := 4) rfl rfl (by decide) rfl (fun ls hl => ?_)
        refine lv_goto (tgt := 2) hx hb d_Desk_pointToPlacesOf_40 (by decide) ?_
        exact kk2 i1 x2 (x3 + 1) σ h1 hF _ _ _ hP hD hS (lv_sub hl [2, 3, 4, 0] rfl)
      · have hF := vIf c6 hF
        refine lv_aload_n hx hb d_Desk_pointToPlacesOf_21 rfl (lv_at hl 1 rfl) ?_
        refine gf_Desk_objects B hP (by decide) L_Desk_29 d_Desk_pointToPlacesOf_22 ?_
        refine lv_iload hx hb d_Desk_pointToPlacesOf_25 (lv_at hl 0 rfl) ?_
        obtain ⟨j7, ej8, hj9, hn10, hF⟩ := vG_some hF
        refine al_AObj B hP (by decide) hn10 ej8 hj9 d_Desk_pointToPlacesOf_27 ?_
        refine lv_dup hx hb d_Desk_pointToPlacesOf_28 rfl ?_
        refine gf_Obj_pointers B hP hj9 L_Desk_204 d_Desk_pointToPlacesOf_29 ?_
        refine lv_iload_n hx hb d_Desk_pointToPlacesOf_32 rfl (lv_at hl 3 rfl) ?_
        refine lv_iadd hx hb d_Desk_pointToPlacesOf_33 ?_
        obtain ⟨σ11, e12, hF⟩ := vL_some hF
        refine pf_Obj_pointers B hP hD hS hj9 e12 L_Desk_204 d_Desk_pointToPlacesOf_34 (fun H locs hP hD hS => ?_)
        refine lv_iinc (v := (x3 + 1)) (lv' := [(3, .int (x3 + 1)), (4, .int (σ 40 i1 j2)), (0, .ref (ad (pDesk 0))), (1, .ref (ad (pThr i1))), (2, .int x2)]) hx hb d_Desk_pointToPlacesOf_37 hl (k := 4) rfl rfl (by decide) rfl (fun ls hl => ?_)
        refine lv_goto (tgt := 2) hx hb d_Desk_pointToPlacesOf_40 (by decide) ?_
        exact kk2 i1 x2 (x3 + 1) σ11 h1 hF _ _ _ hP hD hS (lv_sub hl [2, 3, 4, 0] rfl)
set_option maxHeartbeats 4000000 in
set_option maxRecDepth 100000 in
theorem T_Desk_pointToPlacesOf {σ' : ed_S} (B : ed_B p s m args meth c prog_1_method_49_code "ExecutiveDesk" 5 D ca) (hr : meth.sig.returnType = none) (hA : ∀ q : Nat, s.heap.size ≤ q → A q) : ∀ (i1 : Nat) (x2 : Int32) (σ : ed_S), i1 < 8 → F_Desk_pointToPlacesOf  i1 x2 σ = some σ' → ed_G p l e rm_Desk_pointToPlacesOf s m args below meth c D ca (ed_w ad ca) A (ed_QV D ca (ed_w ad ca) A below args s σ') 5 0 [(0, .ref (ad (pDesk 0))), (1, .ref (ad (pThr i1))), (2, .int x2)] [] σ := by
  have hx := B.1
  have hb := B.2.1
  intro i1 x2 σ h1 hF H locs ls hP hD hS hl
  have hF : (F_Desk_pointToPlacesOf_2  ed_fu i1 x2 0 σ) = some σ' := hF
  refine lv_iconst (v := 0) hx hb d_Desk_pointToPlacesOf_0 (by decide) ?_
  refine lv_istore_n (lv' := [(3, .int 0), (0, .ref (ad (pDesk 0))), (1, .ref (ad (pThr i1))), (2, .int x2)]) hx hb d_Desk_pointToPlacesOf_1 rfl hl (by decide) rfl (fun ls hl => ?_)
  exact T_Desk_pointToPlacesOf_2 B hr hA  ed_fu i1 x2 0 σ h1 hF _ _ _ hP hD hS (lv_sub hl [1, 2, 3, 0] rfl)
set_option maxHeartbeats 4000000 in
set_option maxRecDepth 100000 in
theorem C_Desk_pointToPlacesOf (l : Launch) (D : va_G) (ad : Nat → Nat) (ca : Nat → ClassId) (i1 : Nat) (x2 : Int32) (σ : ed_S) (σ' : ed_S) (h1 : i1 < 8) (hF : F_Desk_pointToPlacesOf i1 x2 σ = some σ') : ed_MV l y_Desk_pointToPlacesOf ws_Desk_pointToPlacesOf rm_Desk_pointToPlacesOf D ca (ed_w ad ca) [.ref (ad (pDesk 0)), .ref (ad (pThr i1)), .int x2] σ σ' := by
  refine ed_metV (cc := prog_1_method_49_code) (own := "ExecutiveDesk") (nL := 5) (ret := none) (by decide) rfl rfl (Nat.le_of_ble_eq_true rfl) ?_
  intro p e s m args below meth c A B hr hA
  exact T_Desk_pointToPlacesOf B hr hA i1 x2 σ h1 hF
abbrev ws_Desk_endWait : List Cond := Cond.code y_Desk_endWait prog_1_method_48_code 3 none :: ed_tb
abbrev rm_Desk_endWait : Room := { frames := 2, cells := 0, slots := 0, locals := 42 }
def F_Desk_endWait (x1 : Int32) (x2 : Int32) (σ : ed_S) : Option ed_S := (vB1 (F_Row_removeValue 32 x1 σ) fun σ1 => (vG x1 8 fun j3 => (vL (ed_st σ1 11 j3 0 x2) fun σ7 => (vG x1 8 fun j9 => (vB1 (F_Desk_pointToPlacesOf j9 (-1) σ7) fun σ13 => (vB1 (F_Sched_makeReady x1 σ13) fun σ15 => (some σ15)))))))
set_option maxHeartbeats 4000000 in
set_option maxRecDepth 100000 in
theorem T_Desk_endWait {σ' : ed_S} (B : ed_B p s m args meth c prog_1_method_48_code "ExecutiveDesk" 3 D ca) (hr : meth.sig.returnType = none) (hA : ∀ q : Nat, s.heap.size ≤ q → A q) : ∀ (x1 : Int32) (x2 : Int32) (σ : ed_S), F_Desk_endWait  x1 x2 σ = some σ' → ed_G p l e rm_Desk_endWait s m args below meth c D ca (ed_w ad ca) A (ed_QV D ca (ed_w ad ca) A below args s σ') 3 0 [(0, .ref (ad (pDesk 0))), (1, .int x1), (2, .int x2)] [] σ := by
  have hx := B.1
  have hb := B.2.1
  intro x1 x2 σ  hF H locs ls hP hD hS hl
  have hF : (vB1 (F_Row_removeValue 32 x1 σ) fun σ1 => (vG x1 8 fun j3 => (vL (ed_st σ1 11 j3 0 x2) fun σ7 => (vG x1 8 fun j9 => (vB1 (F_Desk_pointToPlacesOf j9 (-1) σ7) fun σ13 => (vB1 (F_Sched_makeReady x1 σ13) fun σ15 => (some σ15))))))) = some σ' := hF
  refine lv_aload_n hx hb d_Desk_endWait_0 rfl (lv_at hl 0 rfl) ?_
  refine gf_Desk_waiting B hP (by decide) L_Desk_44 d_Desk_endWait_1 ?_
  refine lv_iload_n hx hb d_Desk_endWait_4 rfl (lv_at hl 1 rfl) ?_
  obtain ⟨σ1, q2, hF⟩ := vB1_some hF
  refine ed_cvV (As := [.int x1]) (rest := []) B hP hD hS hA (C_Row_removeValue l D ad ca 32 x1 σ σ1 (by decide) q2) me_Row_removeValue mv_Row_removeValue L_Desk_368 (ed_rc_Row B hP (by decide)) ⟨rfl, rfl⟩ ⟨Nat.le_of_ble_eq_true rfl, Nat.le_of_ble_eq_true rfl⟩ rfl rfl hl.1 (lv_room (Nat.le_of_ble_eq_true rfl)) d_Desk_endWait_5 (fun H locs hP hD hS => ?_)
  refine lv_aload_n hx hb d_Desk_endWait_8 rfl (lv_at hl 0 rfl) ?_
  refine gf_Desk_threads B hP (by decide) L_Desk_26 d_Desk_endWait_9 ?_
  refine lv_iload_n hx hb d_Desk_endWait_12 rfl (lv_at hl 1 rfl) ?_
  obtain ⟨j3, ej4, hj5, hn6, hF⟩ := vG_some hF
  refine al_AThr B hP (by decide) hn6 ej4 hj5 d_Desk_endWait_13 ?_
  refine lv_iload_n hx hb d_Desk_endWait_14 rfl (lv_at hl 2 rfl) ?_
  obtain ⟨σ7, e8, hF⟩ := vL_some hF
  refine pf_Thr_result B hP hD hS hj5 e8 L_Desk_252 d_Desk_endWait_15 (fun H locs hP hD hS => ?_)
  refine lv_aload_n hx hb d_Desk_endWait_18 rfl (lv_at hl 0 rfl) ?_
  refine lv_aload_n hx hb d_Desk_endWait_19 rfl (lv_at hl 0 rfl) ?_
  refine gf_Desk_threads B hP (by decide) L_Desk_26 d_Desk_endWait_20 ?_
  refine lv_iload_n hx hb d_Desk_endWait_23 rfl (lv_at hl 1 rfl) ?_
  obtain ⟨j9, ej10, hj11, hn12, hF⟩ := vG_some hF
  refine al_AThr B hP (by decide) hn12 ej10 hj11 d_Desk_endWait_24 ?_
  refine lv_iconst (v := (-1)) hx hb d_Desk_endWait_25 (by decide) ?_
  obtain ⟨σ13, q14, hF⟩ := vB1_some hF
  refine ed_cvV (As := [.ref (ad (pThr j9)), .int (-1)]) (rest := []) B hP hD hS hA (C_Desk_pointToPlacesOf l D ad ca j9 (-1) σ7 σ13 hj11 q14) me_Desk_pointToPlacesOf mv_Desk_pointToPlacesOf L_Desk_364 (ed_rc_Desk B hP (by decide)) ⟨rfl, rfl⟩ ⟨Nat.le_of_ble_eq_true rfl, Nat.le_of_ble_eq_true rfl⟩ rfl rfl hl.1 (lv_room (Nat.le_of_ble_eq_true rfl)) d_Desk_endWait_26 (fun H locs hP hD hS => ?_)
  refine lv_aload_n hx hb d_Desk_endWait_29 rfl (lv_at hl 0 rfl) ?_
  refine gf_Desk_scheduler B hP (by decide) L_Desk_18 d_Desk_endWait_30 ?_
  refine lv_iload_n hx hb d_Desk_endWait_33 rfl (lv_at hl 1 rfl) ?_
  obtain ⟨σ15, q16, hF⟩ := vB1_some hF
  refine ed_cvV (As := [.int x1]) (rest := []) B hP hD hS hA (C_Sched_makeReady l D ad ca x1 σ13 σ15  q16) me_Sched_makeReady mv_Sched_makeReady L_Desk_86 (ed_rc_Sched B hP (by decide)) ⟨rfl, rfl⟩ ⟨Nat.le_of_ble_eq_true rfl, Nat.le_of_ble_eq_true rfl⟩ rfl rfl hl.1 (lv_room (Nat.le_of_ble_eq_true rfl)) d_Desk_endWait_34 (fun H locs hP hD hS => ?_)
  exact ed_rV B hr hA hP hD hS (Option.some.inj hF) d_Desk_endWait_37
set_option maxHeartbeats 4000000 in
set_option maxRecDepth 100000 in
theorem C_Desk_endWait (l : Launch) (D : va_G) (ad : Nat → Nat) (ca : Nat → ClassId) (x1 : Int32) (x2 : Int32) (σ : ed_S) (σ' : ed_S) (hF : F_Desk_endWait x1 x2 σ = some σ') : ed_MV l y_Desk_endWait ws_Desk_endWait rm_Desk_endWait D ca (ed_w ad ca) [.ref (ad (pDesk 0)), .int x1, .int x2] σ σ' := by
  refine ed_metV (cc := prog_1_method_48_code) (own := "ExecutiveDesk") (nL := 3) (ret := none) (by decide) rfl rfl (Nat.le_of_ble_eq_true rfl) ?_
  intro p e s m args below meth c A B hr hA
  exact T_Desk_endWait B hr hA x1 x2 σ  hF
abbrev ws_Desk_release : List Cond := Cond.code y_Desk_release prog_1_method_50_code 5 none :: ed_tb
abbrev rm_Desk_release : Room := { frames := 3, cells := 0, slots := 0, locals := 67 }
def F_Desk_release_4 : Nat → Int32 → Int32 → ed_S → Option ed_S
  | 0, _, _, _ => none
  | n + 1, x1, x2, σ => (if 8 ≤ x2 then (some σ) else (if (σ 18 32 0) ≤ x1 then (some σ) else (vB2 (F_Row_get 32 x1 σ) fun r5 σ3 => (vB2 (F_Desk_satisfy r5 σ3) fun r8 σ6 => (if r8 = (-10) then ((F_Desk_release_4  n) (x1 + 1) (x2 + 1) σ6) else (vB1 (F_Desk_endWait r5 r8 σ6) fun σ10 => ((F_Desk_release_4  n) x1 (x2 + 1) σ10)))))))
def F_Desk_release (σ : ed_S) : Option ed_S := (F_Desk_release_4  ed_fu 0 0 σ)
set_option maxHeartbeats 4000000 in
set_option maxRecDepth 100000 in
theorem T_Desk_release_4 {σ' : ed_S} (B : ed_B p s m args meth c prog_1_method_50_code "ExecutiveDesk" 5 D ca) (hr : meth.sig.returnType = none) (hA : ∀ q : Nat, s.heap.size ≤ q → A q) : ∀ (n : Nat) (x1 : Int32) (x2 : Int32) (σ : ed_S), F_Desk_release_4  n x1 x2 σ = some σ' → ed_G p l e rm_Desk_release s m args below meth c D ca (ed_w ad ca) A (ed_QV D ca (ed_w ad ca) A below args s σ') 5 4 [(0, .ref (ad (pDesk 0))), (1, .int x1), (2, .int x2)] [] σ := by
  have hx := B.1
  have hb := B.2.1
  intro n
  induction n with
  | zero => intro x1 x2 σ  hF; exact absurd hF (by intro h; cases h)
  | succ n kk4 =>
    intro x1 x2 σ  hF H locs ls hP hD hS hl
    have hF : (if 8 ≤ x2 then (some σ) else (if (σ 18 32 0) ≤ x1 then (some σ) else (vB2 (F_Row_get 32 x1 σ) fun r5 σ3 => (vB2 (F_Desk_satisfy r5 σ3) fun r8 σ6 => (if r8 = (-10) then ((F_Desk_release_4  n) (x1 + 1) (x2 + 1) σ6) else (vB1 (F_Desk_endWait r5 r8 σ6) fun σ10 => ((F_Desk_release_4  n) x1 (x2 + 1) σ10))))))) = some σ' := hF
    refine lv_iload_n hx hb d_Desk_release_4 rfl (lv_at hl 2 rfl) ?_
    refine lv_bipush (v := 8) hx hb d_Desk_release_5 (by decide) ?_
    refine lv_icmp_ge (tgt := 63) hx hb d_Desk_release_7 (by decide) (fun c1 => ?_) (fun c1 => ?_)
    · have hF := vIt c1 hF
      exact ed_rV B hr hA hP hD hS (Option.some.inj hF) d_Desk_release_63
    · have hF := vIf c1 hF
      refine lv_iload_n hx hb d_Desk_release_10 rfl (lv_at hl 1 rfl) ?_
      refine lv_aload_n hx hb d_Desk_release_11 rfl (lv_at hl 0 rfl) ?_
      refine gf_Desk_waiting B hP (by decide) L_Desk_44 d_Desk_release_12 ?_
      refine gf_Row_size B hP (by decide) L_Desk_181 d_Desk_release_15 ?_
      refine lv_icmp_ge (tgt := 63) hx hb d_Desk_release_18 (by decide) (fun c2 => ?_) (fun c2 => ?_)
      · have hF := vIt c2 hF
        exact ed_rV B hr hA hP hD hS (Option.some.inj hF) d_Desk_release_63
      · have hF := vIf c2 hF
        refine lv_aload_n hx hb d_Desk_release_21 rfl (lv_at hl 0 rfl) ?_
        refine gf_Desk_waiting B hP (by decide) L_Desk_44 d_Desk_release_22 ?_
        refine lv_iload_n hx hb d_Desk_release_25 rfl (lv_at hl 1 rfl) ?_
        obtain ⟨r5, σ3, q4, hF⟩ := vB2_some hF
        refine ed_cvI (As := [.int x1]) (rest := []) B hP hD hS hA (C_Row_get l D ad ca 32 x1 σ r5 σ3 (by decide) q4) me_Row_get mv_Row_get L_Desk_371 (ed_rc_Row B hP (by decide)) ⟨rfl, rfl⟩ ⟨Nat.le_of_ble_eq_true rfl, Nat.le_of_ble_eq_true rfl⟩ rfl rfl hl.1 (lv_room (Nat.le_of_ble_eq_true rfl)) d_Desk_release_26 (fun H locs hP hD hS => ?_)
        refine lv_istore_n (lv' := [(3, .int r5), (0, .ref (ad (pDesk 0))), (1, .int x1), (2, .int x2)]) hx hb d_Desk_release_29 rfl hl (by decide) rfl (fun ls hl => ?_)
        refine lv_aload_n hx hb d_Desk_release_30 rfl (lv_at hl 1 rfl) ?_
        refine lv_iload_n hx hb d_Desk_release_31 rfl (lv_at hl 0 rfl) ?_
        obtain ⟨r8, σ6, q7, hF⟩ := vB2_some hF
        refine ed_cvI (As := [.int r5]) (rest := []) B hP hD hS hA (C_Desk_satisfy l D ad ca r5 σ3 r8 σ6  q7) me_Desk_satisfy mv_Desk_satisfy L_Desk_185 (ed_rc_Desk B hP (by decide)) ⟨rfl, rfl⟩ ⟨Nat.le_of_ble_eq_true rfl, Nat.le_of_ble_eq_true rfl⟩ rfl rfl hl.1 (lv_room (Nat.le_of_ble_eq_true rfl)) d_Desk_release_32 (fun H locs hP hD hS => ?_)
        refine lv_istore (lv' := [(4, .int r8), (3, .int r5), (0, .ref (ad (pDesk 0))), (1, .int x1), (2, .int x2)]) hx hb d_Desk_release_35 hl (by decide) rfl (fun ls hl => ?_)
        refine lv_iload hx hb d_Desk_release_37 (lv_at hl 0 rfl) ?_
        refine lv_bipush (v := (-10)) hx hb d_Desk_release_39 (by decide) ?_
        refine lv_icmp_ne (tgt := 50) hx hb d_Desk_release_41 (by decide) (fun c9 => ?_) (fun c9 => ?_)
        · have hF := vIf c9 hF
          refine lv_aload_n hx hb d_Desk_release_50 rfl (lv_at hl 2 rfl) ?_
          refine lv_iload_n hx hb d_Desk_release_51 rfl (lv_at hl 1 rfl) ?_
          refine lv_iload hx hb d_Desk_release_52 (lv_at hl 0 rfl) ?_
          obtain ⟨σ10, q11, hF⟩ := vB1_some hF
          refine ed_cvV (As := [.int r5, .int r8]) (rest := []) B hP hD hS hA (C_Desk_endWait l D ad ca r5 r8 σ6 σ10  q11) me_Desk_endWait mv_Desk_endWait L_Desk_374 (ed_rc_Desk B hP (by decide)) ⟨rfl, rfl⟩ ⟨Nat.le_of_ble_eq_true rfl, Nat.le_of_ble_eq_true rfl⟩ rfl rfl hl.1 (lv_room (Nat.le_of_ble_eq_true rfl)) d_Desk_release_54 (fun H locs hP hD hS => ?_)
          refine lv_iinc (v := (x2 + 1)) (lv' := [(2, .int (x2 + 1)), (4, .int r8), (3, .int r5), (0, .ref (ad (pDesk 0))), (1, .int x1)]) hx hb d_Desk_release_57 hl (k := 4) rfl rfl (by decide) rfl (fun ls hl => ?_)
          refine lv_goto (tgt := 4) hx hb d_Desk_release_60 (by decide) ?_
          exact kk4 x1 (x2 + 1) σ10  hF _ _ _ hP hD hS (lv_sub hl [3, 4, 0] rfl)
        · have hF := vIt c9 hF
          refine lv_iinc (v := (x1 + 1)) (lv' := [(1, .int (x1 + 1)), (4, .int r8), (3, .int r5), (0, .ref (ad (pDesk 0))), (2, .int x2)]) hx hb d_Desk_release_44 hl (k := 3) rfl rfl (by decide) rfl (fun ls hl => ?_)
          refine lv_goto (tgt := 57) hx hb d_Desk_release_47 (by decide) ?_
          refine lv_iinc (v := (x2 + 1)) (lv' := [(2, .int (x2 + 1)), (1, .int (x1 + 1)), (4, .int r8), (3, .int r5), (0, .ref (ad (pDesk 0)))]) hx hb d_Desk_release_57 hl (k := 4) rfl rfl (by decide) rfl (fun ls hl => ?_)
          refine lv_goto (tgt := 4) hx hb d_Desk_release_60 (by decide) ?_
          exact kk4 (x1 + 1) (x2 + 1) σ6  hF _ _ _ hP hD hS (lv_sub hl [4, 1, 0] rfl)
set_option maxHeartbeats 4000000 in
set_option maxRecDepth 100000 in
theorem T_Desk_release {σ' : ed_S} (B : ed_B p s m args meth c prog_1_method_50_code "ExecutiveDesk" 5 D ca) (hr : meth.sig.returnType = none) (hA : ∀ q : Nat, s.heap.size ≤ q → A q) : ∀ (σ : ed_S), F_Desk_release   σ = some σ' → ed_G p l e rm_Desk_release s m args below meth c D ca (ed_w ad ca) A (ed_QV D ca (ed_w ad ca) A below args s σ') 5 0 [(0, .ref (ad (pDesk 0)))] [] σ := by
  have hx := B.1
  have hb := B.2.1
  intro  σ  hF H locs ls hP hD hS hl
  have hF : (F_Desk_release_4  ed_fu 0 0 σ) = some σ' := hF
  refine lv_iconst (v := 0) hx hb d_Desk_release_0 (by decide) ?_
  refine lv_istore_n (lv' := [(1, .int 0), (0, .ref (ad (pDesk 0)))]) hx hb d_Desk_release_1 rfl hl (by decide) rfl (fun ls hl => ?_)
  refine lv_iconst (v := 0) hx hb d_Desk_release_2 (by decide) ?_
  refine lv_istore_n (lv' := [(2, .int 0), (1, .int 0), (0, .ref (ad (pDesk 0)))]) hx hb d_Desk_release_3 rfl hl (by decide) rfl (fun ls hl => ?_)
  exact T_Desk_release_4 B hr hA  ed_fu 0 0 σ  hF _ _ _ hP hD hS (lv_sub hl [2, 1, 0] rfl)
set_option maxHeartbeats 4000000 in
set_option maxRecDepth 100000 in
theorem C_Desk_release (l : Launch) (D : va_G) (ad : Nat → Nat) (ca : Nat → ClassId) (σ : ed_S) (σ' : ed_S) (hF : F_Desk_release  σ = some σ') : ed_MV l y_Desk_release ws_Desk_release rm_Desk_release D ca (ed_w ad ca) [.ref (ad (pDesk 0))] σ σ' := by
  refine ed_metV (cc := prog_1_method_50_code) (own := "ExecutiveDesk") (nL := 5) (ret := none) (by decide) rfl rfl (Nat.le_of_ble_eq_true rfl) ?_
  intro p e s m args below meth c A B hr hA
  exact T_Desk_release B hr hA  σ  hF
abbrev ws_Desk_raiseCount : List Cond := Cond.code y_Desk_raiseCount prog_1_method_40_code 4 (some .int) :: ed_tb
abbrev rm_Desk_raiseCount : Room := { frames := 4, cells := 0, slots := 0, locals := 91 }
def F_Desk_raiseCount (i1 : Nat) (x2 : Int32) (σ : ed_S) : Option (Int32 × ed_S) := (if ((σ 26 i1 0) + x2) ≤ 9 then (vL (ed_st σ 26 i1 0 ((σ 26 i1 0) + x2)) fun σ2 => (vB1 (F_Desk_release  σ2) fun σ4 => (some ((σ 26 i1 0), σ4)))) else (some ((-8), σ)))
set_option maxHeartbeats 4000000 in
set_option maxRecDepth 100000 in
theorem T_Desk_raiseCount {r : Int32} {σ' : ed_S} (B : ed_B p s m args meth c prog_1_method_40_code "ExecutiveDesk" 4 D ca) (hr : meth.sig.returnType = (some .int)) (hA : ∀ q : Nat, s.heap.size ≤ q → A q) : ∀ (i1 : Nat) (x2 : Int32) (σ : ed_S), i1 < 16 → F_Desk_raiseCount  i1 x2 σ = some (r, σ') → ed_G p l e rm_Desk_raiseCount s m args below meth c D ca (ed_w ad ca) A (ed_QI D ca (ed_w ad ca) A below args s r σ') 4 0 [(0, .ref (ad (pDesk 0))), (1, .ref (ad (pObj i1))), (2, .int x2)] [] σ := by
  have hx := B.1
  have hb := B.2.1
  intro i1 x2 σ h1 hF H locs ls hP hD hS hl
  have hF : (if ((σ 26 i1 0) + x2) ≤ 9 then (vL (ed_st σ 26 i1 0 ((σ 26 i1 0) + x2)) fun σ2 => (vB1 (F_Desk_release  σ2) fun σ4 => (some ((σ 26 i1 0), σ4)))) else (some ((-8), σ))) = some (r, σ') := hF
  refine lv_aload_n hx hb d_Desk_raiseCount_0 rfl (lv_at hl 1 rfl) ?_
  refine gf_Obj_value B hP h1 L_Desk_273 d_Desk_raiseCount_1 ?_
  refine lv_istore_n (lv' := [(3, .int (σ 26 i1 0)), (0, .ref (ad (pDesk 0))), (1, .ref (ad (pObj i1))), (2, .int x2)]) hx hb d_Desk_raiseCount_4 rfl hl (by decide) rfl (fun ls hl => ?_)
  refine lv_iload_n hx hb d_Desk_raiseCount_5 rfl (lv_at hl 0 rfl) ?_
  refine lv_iload_n hx hb d_Desk_raiseCount_6 rfl (lv_at hl 3 rfl) ?_
  refine lv_iadd hx hb d_Desk_raiseCount_7 ?_
  refine lv_bipush (v := 9) hx hb d_Desk_raiseCount_8 (by decide) ?_
  refine lv_icmp_le (tgt := 16) hx hb d_Desk_raiseCount_10 (by decide) (fun c1 => ?_) (fun c1 => ?_)
  · have hF := vIt c1 hF
    refine lv_aload_n hx hb d_Desk_raiseCount_16 rfl (lv_at hl 2 rfl) ?_
    refine lv_iload_n hx hb d_Desk_raiseCount_17 rfl (lv_at hl 0 rfl) ?_
    refine lv_iload_n hx hb d_Desk_raiseCount_18 rfl (lv_at hl 3 rfl) ?_
    refine lv_iadd hx hb d_Desk_raiseCount_19 ?_
    obtain ⟨σ2, e3, hF⟩ := vL_some hF
    refine pf_Obj_value B hP hD hS h1 e3 L_Desk_273 d_Desk_raiseCount_20 (fun H locs hP hD hS => ?_)
    refine lv_aload_n hx hb d_Desk_raiseCount_23 rfl (lv_at hl 1 rfl) ?_
    obtain ⟨σ4, q5, hF⟩ := vB1_some hF
    refine ed_cvV (As := []) (rest := []) B hP hD hS hA (C_Desk_release l D ad ca  σ2 σ4  q5) me_Desk_release mv_Desk_release L_Desk_343 (ed_rc_Desk B hP (by decide)) ⟨rfl, rfl⟩ ⟨Nat.le_of_ble_eq_true rfl, Nat.le_of_ble_eq_true rfl⟩ rfl rfl hl.1 (lv_room (Nat.le_of_ble_eq_true rfl)) d_Desk_raiseCount_24 (fun H locs hP hD hS => ?_)
    refine lv_iload_n hx hb d_Desk_raiseCount_27 rfl (lv_at hl 0 rfl) ?_
    exact ed_rI B hr hA hP hD hS (vP hF) d_Desk_raiseCount_28
  · have hF := vIf c1 hF
    refine lv_bipush (v := (-8)) hx hb d_Desk_raiseCount_13 (by decide) ?_
    exact ed_rI B hr hA hP hD hS (vP hF) d_Desk_raiseCount_15
set_option maxHeartbeats 4000000 in
set_option maxRecDepth 100000 in
theorem C_Desk_raiseCount (l : Launch) (D : va_G) (ad : Nat → Nat) (ca : Nat → ClassId) (i1 : Nat) (x2 : Int32) (σ : ed_S) (r : Int32) (σ' : ed_S) (h1 : i1 < 16) (hF : F_Desk_raiseCount i1 x2 σ = some (r, σ')) : ed_MI l y_Desk_raiseCount ws_Desk_raiseCount rm_Desk_raiseCount D ca (ed_w ad ca) [.ref (ad (pDesk 0)), .ref (ad (pObj i1)), .int x2] σ r σ' := by
  refine ed_metI (cc := prog_1_method_40_code) (own := "ExecutiveDesk") (nL := 4) (ret := (some .int)) (by decide) rfl rfl (Nat.le_of_ble_eq_true rfl) ?_
  intro p e s m args below meth c A B hr hA
  exact T_Desk_raiseCount B hr hA i1 x2 σ h1 hF
end EDT
