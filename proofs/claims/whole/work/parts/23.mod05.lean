section EDT
variable {p : Program} {l : Launch} {e : Env} {s : State} {m : MethodId} {args : Array Value} {below : List Frame} {meth : Method} {c : Code} {D : va_G} {ad : Nat → Nat} {ca : Nat → ClassId} {A : Nat → Prop}
abbrev ws_Mod_firstOf : List Cond := Cond.code y_Mod_firstOf prog_10_method_36_code 4 (some .int) :: ed_tb
abbrev rm_Mod_firstOf : Room := { frames := 0, cells := 0, slots := 0, locals := 0 }
def F_Mod_firstOf_4 : Nat → Int32 → Int32 → Int32 → ed_S → Option (Int32 × ed_S)
  | 0, _, _, _, _ => none
  | n + 1, x1, x2, x3, σ => (if 8 ≤ x3 then (some (x2, σ)) else (vG x3 8 fun j2 => (if (σ 31 0 j2) = 0 then (vG x3 8 fun j7 => (if (σ 34 0 j7) = x1 then (if x2 < 0 then ((F_Mod_firstOf_4  n) x1 x3 (x3 + 1) σ) else (vG x3 8 fun j13 => (vG x2 8 fun j17 => (if (σ 37 0 j17) ≤ (σ 37 0 j13) then ((F_Mod_firstOf_4  n) x1 x2 (x3 + 1) σ) else ((F_Mod_firstOf_4  n) x1 x3 (x3 + 1) σ))))) else ((F_Mod_firstOf_4  n) x1 x2 (x3 + 1) σ))) else ((F_Mod_firstOf_4  n) x1 x2 (x3 + 1) σ))))
def F_Mod_firstOf (x1 : Int32) (σ : ed_S) : Option (Int32 × ed_S) := (F_Mod_firstOf_4  ed_fu x1 (-1) 0 σ)
set_option maxHeartbeats 4000000 in
set_option maxRecDepth 100000 in
theorem T_Mod_firstOf_4 {r : Int32} {σ' : ed_S} (B : ed_B p s m args meth c prog_10_method_36_code "ExecutiveDeskModel" 4 D ca) (hr : meth.sig.returnType = (some .int)) (hA : ∀ q : Nat, s.heap.size ≤ q → A q) : ∀ (n : Nat) (x1 : Int32) (x2 : Int32) (x3 : Int32) (σ : ed_S), F_Mod_firstOf_4  n x1 x2 x3 σ = some (r, σ') → ed_G p l e rm_Mod_firstOf s m args below meth c D ca (md_w ad ca) A (ed_QI D ca (md_w ad ca) A below args s r σ') 4 4 [(0, .ref (ad (pMod 0))), (1, .int x1), (2, .int x2), (3, .int x3)] [] σ := by
  have hx := B.1
  have hb := B.2.1
  intro n
  induction n with
  | zero => intro x1 x2 x3 σ  hF; exact absurd hF (by intro h; cases h)
  | succ n kk4 =>
    intro x1 x2 x3 σ  hF H locs ls hP hD hS hl
    have hF : (if 8 ≤ x3 then (some (x2, σ)) else (vG x3 8 fun j2 => (if (σ 31 0 j2) = 0 then (vG x3 8 fun j7 => (if (σ 34 0 j7) = x1 then (if x2 < 0 then ((F_Mod_firstOf_4  n) x1 x3 (x3 + 1) σ) else (vG x3 8 fun j13 => (vG x2 8 fun j17 => (if (σ 37 0 j17) ≤ (σ 37 0 j13) then ((F_Mod_firstOf_4  n) x1 x2 (x3 + 1) σ) else ((F_Mod_firstOf_4  n) x1 x3 (x3 + 1) σ))))) else ((F_Mod_firstOf_4  n) x1 x2 (x3 + 1) σ))) else ((F_Mod_firstOf_4  n) x1 x2 (x3 + 1) σ)))) = some (r, σ') := hF
    refine lv_iload_n hx hb d_Mod_firstOf_4 rfl (lv_at hl 3 rfl) ?_
    refine lv_bipush (v := 8) hx hb d_Mod_firstOf_5 (by decide) ?_
    refine lv_icmp_ge (tgt := 56) hx hb d_Mod_firstOf_7 (by decide) (fun c1 => ?_) (fun c1 => ?_)
    · have hF := vIt c1 hF
      refine lv_iload_n hx hb d_Mod_firstOf_56 rfl (lv_at hl 2 rfl) ?_
      exact ed_rI B hr hA hP hD hS (vP hF) d_Mod_firstOf_57
    · have hF := vIf c1 hF
      refine lv_aload_n hx hb d_Mod_firstOf_10 rfl (lv_at hl 0 rfl) ?_
      refine gf_Mod_tState B hP (by decide) L_Mod_104 d_Mod_firstOf_11 ?_
      refine lv_iload_n hx hb d_Mod_firstOf_14 rfl (lv_at hl 3 rfl) ?_
      obtain ⟨j2, ej3, hj4, hn5, hF⟩ := vG_some hF
      refine il_MtState B hP (by decide) hn5 ej3 d_Mod_firstOf_15 ?_
      refine lv_if_ne (tgt := 50) hx hb d_Mod_firstOf_16 (by decide) (fun c6 => ?_) (fun c6 => ?_)
      · have hF := vIf c6 hF
        refine lv_iinc (v := (x3 + 1)) (lv' := [(3, .int (x3 + 1)), (0, .ref (ad (pMod 0))), (1, .int x1), (2, .int x2)]) hx hb d_Mod_firstOf_50 hl (k := 3) rfl rfl (by decide) rfl (fun ls hl => ?_)
        refine lv_goto (tgt := 4) hx hb d_Mod_firstOf_53 (by decide) ?_
        exact kk4 x1 x2 (x3 + 1) σ  hF _ _ _ hP hD hS (lv_sub hl [1, 2, 3, 0] rfl)
      · have hF := vIt c6 hF
        refine lv_aload_n hx hb d_Mod_firstOf_19 rfl (lv_at hl 0 rfl) ?_
        refine gf_Mod_tDevice B hP (by decide) L_Mod_113 d_Mod_firstOf_20 ?_
        refine lv_iload_n hx hb d_Mod_firstOf_23 rfl (lv_at hl 3 rfl) ?_
        obtain ⟨j7, ej8, hj9, hn10, hF⟩ := vG_some hF
        refine il_MtDevice B hP (by decide) hn10 ej8 d_Mod_firstOf_24 ?_
        refine lv_iload_n hx hb d_Mod_firstOf_25 rfl (lv_at hl 1 rfl) ?_
        refine lv_icmp_ne (tgt := 50) hx hb d_Mod_firstOf_26 (by decide) (fun c11 => ?_) (fun c11 => ?_)
        · have hF := vIf c11 hF
          refine lv_iinc (v := (x3 + 1)) (lv' := [(3, .int (x3 + 1)), (0, .ref (ad (pMod 0))), (1, .int x1), (2, .int x2)]) hx hb d_Mod_firstOf_50 hl (k := 3) rfl rfl (by decide) rfl (fun ls hl => ?_)
          refine lv_goto (tgt := 4) hx hb d_Mod_firstOf_53 (by decide) ?_
          exact kk4 x1 x2 (x3 + 1) σ  hF _ _ _ hP hD hS (lv_sub hl [1, 2, 3, 0] rfl)
        · have hF := vIt c11 hF
          refine lv_iload_n hx hb d_Mod_firstOf_29 rfl (lv_at hl 2 rfl) ?_
          refine lv_if_lt (tgt := 48) hx hb d_Mod_firstOf_30 (by decide) (fun c12 => ?_) (fun c12 => ?_)
          · have hF := vIt c12 hF
            refine lv_iload_n hx hb d_Mod_firstOf_48 rfl (lv_at hl 3 rfl) ?_
            refine lv_istore_n (lv' := [(2, .int x3), (0, .ref (ad (pMod 0))), (1, .int x1), (3, .int x3)]) hx hb d_Mod_firstOf_49 rfl hl (by decide) rfl (fun ls hl => ?_)
            refine lv_iinc (v := (x3 + 1)) (lv' := [(3, .int (x3 + 1)), (2, .int x3), (0, .ref (ad (pMod 0))), (1, .int x1)]) hx hb d_Mod_firstOf_50 hl (k := 3) rfl rfl (by decide) rfl (fun ls hl => ?_)
            refine lv_goto (tgt := 4) hx hb d_Mod_firstOf_53 (by decide) ?_
            exact kk4 x1 x3 (x3 + 1) σ  hF _ _ _ hP hD hS (lv_sub hl [2, 3, 1, 0] rfl)
          · have hF := vIf c12 hF
            refine lv_aload_n hx hb d_Mod_firstOf_33 rfl (lv_at hl 0 rfl) ?_
            refine gf_Mod_tOrder B hP (by decide) L_Mod_122 d_Mod_firstOf_34 ?_
            refine lv_iload_n hx hb d_Mod_firstOf_37 rfl (lv_at hl 3 rfl) ?_
            obtain ⟨j13, ej14, hj15, hn16, hF⟩ := vG_some hF
            refine il_MtOrder B hP (by decide) hn16 ej14 d_Mod_firstOf_38 ?_
            refine lv_aload_n hx hb d_Mod_firstOf_39 rfl (lv_at hl 0 rfl) ?_
            refine gf_Mod_tOrder B hP (by decide) L_Mod_122 d_Mod_firstOf_40 ?_
            refine lv_iload_n hx hb d_Mod_firstOf_43 rfl (lv_at hl 2 rfl) ?_
            obtain ⟨j17, ej18, hj19, hn20, hF⟩ := vG_some hF
            refine il_MtOrder B hP (by decide) hn20 ej18 d_Mod_firstOf_44 ?_
            refine lv_icmp_ge (tgt := 50) hx hb d_Mod_firstOf_45 (by decide) (fun c21 => ?_) (fun c21 => ?_)
            · have hF := vIt c21 hF
              refine lv_iinc (v := (x3 + 1)) (lv' := [(3, .int (x3 + 1)), (0, .ref (ad (pMod 0))), (1, .int x1), (2, .int x2)]) hx hb d_Mod_firstOf_50 hl (k := 3) rfl rfl (by decide) rfl (fun ls hl => ?_)
              refine lv_goto (tgt := 4) hx hb d_Mod_firstOf_53 (by decide) ?_
              exact kk4 x1 x2 (x3 + 1) σ  hF _ _ _ hP hD hS (lv_sub hl [1, 2, 3, 0] rfl)
            · have hF := vIf c21 hF
              refine lv_iload_n hx hb d_Mod_firstOf_48 rfl (lv_at hl 3 rfl) ?_
              refine lv_istore_n (lv' := [(2, .int x3), (0, .ref (ad (pMod 0))), (1, .int x1), (3, .int x3)]) hx hb d_Mod_firstOf_49 rfl hl (by decide) rfl (fun ls hl => ?_)
              refine lv_iinc (v := (x3 + 1)) (lv' := [(3, .int (x3 + 1)), (2, .int x3), (0, .ref (ad (pMod 0))), (1, .int x1)]) hx hb d_Mod_firstOf_50 hl (k := 3) rfl rfl (by decide) rfl (fun ls hl => ?_)
              refine lv_goto (tgt := 4) hx hb d_Mod_firstOf_53 (by decide) ?_
              exact kk4 x1 x3 (x3 + 1) σ  hF _ _ _ hP hD hS (lv_sub hl [2, 3, 1, 0] rfl)
set_option maxHeartbeats 4000000 in
set_option maxRecDepth 100000 in
theorem T_Mod_firstOf {r : Int32} {σ' : ed_S} (B : ed_B p s m args meth c prog_10_method_36_code "ExecutiveDeskModel" 4 D ca) (hr : meth.sig.returnType = (some .int)) (hA : ∀ q : Nat, s.heap.size ≤ q → A q) : ∀ (x1 : Int32) (σ : ed_S), F_Mod_firstOf  x1 σ = some (r, σ') → ed_G p l e rm_Mod_firstOf s m args below meth c D ca (md_w ad ca) A (ed_QI D ca (md_w ad ca) A below args s r σ') 4 0 [(0, .ref (ad (pMod 0))), (1, .int x1)] [] σ := by
  have hx := B.1
  have hb := B.2.1
  intro x1 σ  hF H locs ls hP hD hS hl
  have hF : (F_Mod_firstOf_4  ed_fu x1 (-1) 0 σ) = some (r, σ') := hF
  refine lv_iconst (v := (-1)) hx hb d_Mod_firstOf_0 (by decide) ?_
  refine lv_istore_n (lv' := [(2, .int (-1)), (0, .ref (ad (pMod 0))), (1, .int x1)]) hx hb d_Mod_firstOf_1 rfl hl (by decide) rfl (fun ls hl => ?_)
  refine lv_iconst (v := 0) hx hb d_Mod_firstOf_2 (by decide) ?_
  refine lv_istore_n (lv' := [(3, .int 0), (2, .int (-1)), (0, .ref (ad (pMod 0))), (1, .int x1)]) hx hb d_Mod_firstOf_3 rfl hl (by decide) rfl (fun ls hl => ?_)
  exact T_Mod_firstOf_4 B hr hA  ed_fu x1 (-1) 0 σ  hF _ _ _ hP hD hS (lv_sub hl [2, 3, 1, 0] rfl)
set_option maxHeartbeats 4000000 in
set_option maxRecDepth 100000 in
theorem C_Mod_firstOf (l : Launch) (D : va_G) (ad : Nat → Nat) (ca : Nat → ClassId) (x1 : Int32) (σ : ed_S) (r : Int32) (σ' : ed_S) (hF : F_Mod_firstOf x1 σ = some (r, σ')) : ed_MI l y_Mod_firstOf ws_Mod_firstOf rm_Mod_firstOf D ca (md_w ad ca) [.ref (ad (pMod 0)), .int x1] σ r σ' := by
  refine ed_metI (cc := prog_10_method_36_code) (own := "ExecutiveDeskModel") (nL := 4) (ret := (some .int)) (by decide) rfl rfl (Nat.le_of_ble_eq_true rfl) ?_
  intro p e s m args below meth c A B hr hA
  exact T_Mod_firstOf B hr hA x1 σ  hF
abbrev ws_Mod_over : List Cond := Cond.code y_Mod_over prog_10_method_37_code 4 none :: ed_tb
abbrev rm_Mod_over : Room := { frames := 4, cells := 0, slots := 0, locals := 93 }
def F_Mod_over (x1 : Int32) (x2 : Int32) (x3 : Int32) (σ : ed_S) : Option ed_S := (vG x1 8 fun j1 => vL (ed_st σ 31 0 j1 x2) fun σ5 => (vG x1 8 fun j7 => vL (ed_st σ5 32 0 j7 x3) fun σ11 => (vL (ed_st σ11 50 0 0 ((σ11 50 0 0) + 1)) fun σ13 => (vG x1 8 fun j15 => (if (σ13 36 0 j15) < 0 then (some σ13) else (vG x1 8 fun j20 => (vB1 (F_Mod_signal (σ13 36 0 j20) σ13) fun σ24 => (some σ24))))))))
set_option maxHeartbeats 4000000 in
set_option maxRecDepth 100000 in
theorem T_Mod_over {σ' : ed_S} (B : ed_B p s m args meth c prog_10_method_37_code "ExecutiveDeskModel" 4 D ca) (hr : meth.sig.returnType = none) (hA : ∀ q : Nat, s.heap.size ≤ q → A q) : ∀ (x1 : Int32) (x2 : Int32) (x3 : Int32) (σ : ed_S), F_Mod_over  x1 x2 x3 σ = some σ' → ed_G p l e rm_Mod_over s m args below meth c D ca (md_w ad ca) A (ed_QV D ca (md_w ad ca) A below args s σ') 4 0 [(0, .ref (ad (pMod 0))), (1, .int x1), (2, .int x2), (3, .int x3)] [] σ := by
  have hx := B.1
  have hb := B.2.1
  intro x1 x2 x3 σ  hF H locs ls hP hD hS hl
  have hF : (vG x1 8 fun j1 => vL (ed_st σ 31 0 j1 x2) fun σ5 => (vG x1 8 fun j7 => vL (ed_st σ5 32 0 j7 x3) fun σ11 => (vL (ed_st σ11 50 0 0 ((σ11 50 0 0) + 1)) fun σ13 => (vG x1 8 fun j15 => (if (σ13 36 0 j15) < 0 then (some σ13) else (vG x1 8 fun j20 => (vB1 (F_Mod_signal (σ13 36 0 j20) σ13) fun σ24 => (some σ24)))))))) = some σ' := hF
  refine lv_aload_n hx hb d_Mod_over_0 rfl (lv_at hl 0 rfl) ?_
  refine gf_Mod_tState B hP (by decide) L_Mod_104 d_Mod_over_1 ?_
  refine lv_iload_n hx hb d_Mod_over_4 rfl (lv_at hl 1 rfl) ?_
  refine lv_iload_n hx hb d_Mod_over_5 rfl (lv_at hl 2 rfl) ?_
  obtain ⟨j1, ej2, hj3, hn4, hF⟩ := vG_some hF
  obtain ⟨σ5, e6, hF⟩ := vL_some hF
  refine is_MtState B hP hD hS (by decide) hn4 ej2 e6 d_Mod_over_6 (fun H locs hP hD hS => ?_)
  refine lv_aload_n hx hb d_Mod_over_7 rfl (lv_at hl 0 rfl) ?_
  refine gf_Mod_tAmount B hP (by decide) L_Mod_107 d_Mod_over_8 ?_
  refine lv_iload_n hx hb d_Mod_over_11 rfl (lv_at hl 1 rfl) ?_
  refine lv_iload_n hx hb d_Mod_over_12 rfl (lv_at hl 3 rfl) ?_
  obtain ⟨j7, ej8, hj9, hn10, hF⟩ := vG_some hF
  obtain ⟨σ11, e12, hF⟩ := vL_some hF
  refine is_MtAmount B hP hD hS (by decide) hn10 ej8 e12 d_Mod_over_13 (fun H locs hP hD hS => ?_)
  refine lv_aload_n hx hb d_Mod_over_14 rfl (lv_at hl 0 rfl) ?_
  refine lv_dup hx hb d_Mod_over_15 rfl ?_
  refine gf_Mod_overs B hP (by decide) L_Mod_250 d_Mod_over_16 ?_
  refine lv_iconst (v := 1) hx hb d_Mod_over_19 (by decide) ?_
  refine lv_iadd hx hb d_Mod_over_20 ?_
  obtain ⟨σ13, e14, hF⟩ := vL_some hF
  refine pf_Mod_overs B hP hD hS (by decide) e14 L_Mod_250 d_Mod_over_21 (fun H locs hP hD hS => ?_)
  refine lv_aload_n hx hb d_Mod_over_24 rfl (lv_at hl 0 rfl) ?_
  refine gf_Mod_tSets B hP (by decide) L_Mod_119 d_Mod_over_25 ?_
  refine lv_iload_n hx hb d_Mod_over_28 rfl (lv_at hl 1 rfl) ?_
  obtain ⟨j15, ej16, hj17, hn18, hF⟩ := vG_some hF
  refine il_MtSets B hP (by decide) hn18 ej16 d_Mod_over_29 ?_
  refine lv_if_lt (tgt := 43) hx hb d_Mod_over_30 (by decide) (fun c19 => ?_) (fun c19 => ?_)
  · have hF := vIt c19 hF
    exact ed_rV B hr hA hP hD hS (Option.some.inj hF) d_Mod_over_43
  · have hF := vIf c19 hF
    refine lv_aload_n hx hb d_Mod_over_33 rfl (lv_at hl 0 rfl) ?_
    refine lv_aload_n hx hb d_Mod_over_34 rfl (lv_at hl 0 rfl) ?_
    refine gf_Mod_tSets B hP (by decide) L_Mod_119 d_Mod_over_35 ?_
    refine lv_iload_n hx hb d_Mod_over_38 rfl (lv_at hl 1 rfl) ?_
    obtain ⟨j20, ej21, hj22, hn23, hF⟩ := vG_some hF
    refine il_MtSets B hP (by decide) hn23 ej21 d_Mod_over_39 ?_
    obtain ⟨σ24, q25, hF⟩ := vB1_some hF
    refine ed_cvV (As := [.int (σ13 36 0 j20)]) (rest := []) B hP hD hS hA (C_Mod_signal l D ad ca (σ13 36 0 j20) σ13 σ24  q25) me_Mod_signal mv_Mod_signal L_Mod_253 (ed_rc_Mod B hP (by decide)) ⟨rfl, rfl⟩ ⟨Nat.le_of_ble_eq_true rfl, Nat.le_of_ble_eq_true rfl⟩ rfl rfl hl.1 (lv_room (Nat.le_of_ble_eq_true rfl)) d_Mod_over_40 (fun H locs hP hD hS => ?_)
    exact ed_rV B hr hA hP hD hS (Option.some.inj hF) d_Mod_over_43
set_option maxHeartbeats 4000000 in
set_option maxRecDepth 100000 in
theorem C_Mod_over (l : Launch) (D : va_G) (ad : Nat → Nat) (ca : Nat → ClassId) (x1 : Int32) (x2 : Int32) (x3 : Int32) (σ : ed_S) (σ' : ed_S) (hF : F_Mod_over x1 x2 x3 σ = some σ') : ed_MV l y_Mod_over ws_Mod_over rm_Mod_over D ca (md_w ad ca) [.ref (ad (pMod 0)), .int x1, .int x2, .int x3] σ σ' := by
  refine ed_metV (cc := prog_10_method_37_code) (own := "ExecutiveDeskModel") (nL := 4) (ret := none) (by decide) rfl rfl (Nat.le_of_ble_eq_true rfl) ?_
  intro p e s m args below meth c A B hr hA
  exact T_Mod_over B hr hA x1 x2 x3 σ  hF
abbrev ws_Mod_finish : List Cond := Cond.code y_Mod_finish prog_10_method_38_code 4 none :: ed_tb
abbrev rm_Mod_finish : Room := { frames := 5, cells := 0, slots := 0, locals := 116 }
def F_Mod_finish (x1 : Int32) (x2 : Int32) (σ : ed_S) : Option ed_S := (vB2 (F_Mod_firstOf x1 σ) fun r3 σ1 => (if 0 ≤ r3 then (vG r3 8 fun j5 => (if (σ1 38 0 j5) = 0 then (if x2 = 0 then (vG x1 16 fun j11 => (if ((σ1 24 0 j11) &&& 5) = 5 then (vG r3 8 fun j18 => (if (σ1 39 0 j18) = 0 then (vG r3 8 fun j25 => vL (ed_st σ1 39 0 j25 1) fun σ29 => (vL (ed_st σ29 51 0 0 ((σ29 51 0 0) + 1)) fun σ31 => (vG r3 8 fun j33 => vL (ed_st σ31 37 0 j33 ((σ29 51 0 0) + 1)) fun σ37 => (some σ37)))) else (vB1 (F_Mod_over r3 4 0 σ1) fun σ23 => (some σ23)))) else (vB1 (F_Mod_over r3 4 0 σ1) fun σ16 => (some σ16)))) else (vG r3 8 fun j39 => (vB1 (F_Mod_over r3 1 (σ1 35 0 j39) σ1) fun σ43 => (some σ43)))) else (vB1 (F_Mod_over r3 5 0 σ1) fun σ45 => (some σ45)))) else (some σ1)))
set_option maxHeartbeats 4000000 in
set_option maxRecDepth 100000 in
theorem T_Mod_finish {σ' : ed_S} (B : ed_B p s m args meth c prog_10_method_38_code "ExecutiveDeskModel" 4 D ca) (hr : meth.sig.returnType = none) (hA : ∀ q : Nat, s.heap.size ≤ q → A q) : ∀ (x1 : Int32) (x2 : Int32) (σ : ed_S), F_Mod_finish  x1 x2 σ = some σ' → ed_G p l e rm_Mod_finish s m args below meth c D ca (md_w ad ca) A (ed_QV D ca (md_w ad ca) A below args s σ') 4 0 [(0, .ref (ad (pMod 0))), (1, .int x1), (2, .int x2)] [] σ := by
  have hx := B.1
  have hb := B.2.1
  intro x1 x2 σ  hF H locs ls hP hD hS hl
  have hF : (vB2 (F_Mod_firstOf x1 σ) fun r3 σ1 => (if 0 ≤ r3 then (vG r3 8 fun j5 => (if (σ1 38 0 j5) = 0 then (if x2 = 0 then (vG x1 16 fun j11 => (if ((σ1 24 0 j11) &&& 5) = 5 then (vG r3 8 fun j18 => (if (σ1 39 0 j18) = 0 then (vG r3 8 fun j25 => vL (ed_st σ1 39 0 j25 1) fun σ29 => (vL (ed_st σ29 51 0 0 ((σ29 51 0 0) + 1)) fun σ31 => (vG r3 8 fun j33 => vL (ed_st σ31 37 0 j33 ((σ29 51 0 0) + 1)) fun σ37 => (some σ37)))) else (vB1 (F_Mod_over r3 4 0 σ1) fun σ23 => (some σ23)))) else (vB1 (F_Mod_over r3 4 0 σ1) fun σ16 => (some σ16)))) else (vG r3 8 fun j39 => (vB1 (F_Mod_over r3 1 (σ1 35 0 j39) σ1) fun σ43 => (some σ43)))) else (vB1 (F_Mod_over r3 5 0 σ1) fun σ45 => (some σ45)))) else (some σ1))) = some σ' := hF
  refine lv_aload_n hx hb d_Mod_finish_0 rfl (lv_at hl 0 rfl) ?_
  refine lv_iload_n hx hb d_Mod_finish_1 rfl (lv_at hl 1 rfl) ?_
  obtain ⟨r3, σ1, q2, hF⟩ := vB2_some hF
  refine ed_cvI (As := [.int x1]) (rest := []) B hP hD hS hA (C_Mod_firstOf l D ad ca x1 σ r3 σ1  q2) me_Mod_firstOf mv_Mod_firstOf L_Mod_256 (ed_rc_Mod B hP (by decide)) ⟨rfl, rfl⟩ ⟨Nat.le_of_ble_eq_true rfl, Nat.le_of_ble_eq_true rfl⟩ rfl rfl hl.1 (lv_room (Nat.le_of_ble_eq_true rfl)) d_Mod_finish_2 (fun H locs hP hD hS => ?_)
  refine lv_istore_n (lv' := [(3, .int r3), (0, .ref (ad (pMod 0))), (1, .int x1), (2, .int x2)]) hx hb d_Mod_finish_5 rfl hl (by decide) rfl (fun ls hl => ?_)
  refine lv_iload_n hx hb d_Mod_finish_6 rfl (lv_at hl 0 rfl) ?_
  refine lv_if_ge (tgt := 11) hx hb d_Mod_finish_7 (by decide) (fun c4 => ?_) (fun c4 => ?_)
  · have hF := vIt c4 hF
    refine lv_aload_n hx hb d_Mod_finish_11 rfl (lv_at hl 1 rfl) ?_
    refine gf_Mod_tCancel B hP (by decide) L_Mod_125 d_Mod_finish_12 ?_
    refine lv_iload_n hx hb d_Mod_finish_15 rfl (lv_at hl 0 rfl) ?_
    obtain ⟨j5, ej6, hj7, hn8, hF⟩ := vG_some hF
    refine il_MtCancel B hP (by decide) hn8 ej6 d_Mod_finish_16 ?_
    refine lv_if_eq (tgt := 30) hx hb d_Mod_finish_17 (by decide) (fun c9 => ?_) (fun c9 => ?_)
    · have hF := vIt c9 hF
      refine lv_iload_n hx hb d_Mod_finish_30 rfl (lv_at hl 3 rfl) ?_
      refine lv_if_eq (tgt := 49) hx hb d_Mod_finish_31 (by decide) (fun c10 => ?_) (fun c10 => ?_)
      · have hF := vIt c10 hF
        refine lv_aload_n hx hb d_Mod_finish_49 rfl (lv_at hl 1 rfl) ?_
        refine gf_Mod_count B hP (by decide) L_Mod_83 d_Mod_finish_50 ?_
        refine lv_iload_n hx hb d_Mod_finish_53 rfl (lv_at hl 2 rfl) ?_
        obtain ⟨j11, ej12, hj13, hn14, hF⟩ := vG_some hF
        refine il_Mcount B hP (by decide) hn14 ej12 d_Mod_finish_54 ?_
        refine lv_iconst (v := 5) hx hb d_Mod_finish_55 (by decide) ?_
        refine lv_iand hx hb d_Mod_finish_56 ?_
        refine lv_iconst (v := 5) hx hb d_Mod_finish_57 (by decide) ?_
        refine lv_icmp_ne (tgt := 97) hx hb d_Mod_finish_58 (by decide) (fun c15 => ?_) (fun c15 => ?_)
        · have hF := vIf c15 hF
          refine lv_aload_n hx hb d_Mod_finish_97 rfl (lv_at hl 1 rfl) ?_
          refine lv_iload_n hx hb d_Mod_finish_98 rfl (lv_at hl 0 rfl) ?_
          refine lv_iconst (v := 4) hx hb d_Mod_finish_99 (by decide) ?_
          refine lv_iconst (v := 0) hx hb d_Mod_finish_100 (by decide) ?_
          obtain ⟨σ16, q17, hF⟩ := vB1_some hF
          refine ed_cvV (As := [.int r3, .int 4, .int 0]) (rest := []) B hP hD hS hA (C_Mod_over l D ad ca r3 4 0 σ1 σ16  q17) me_Mod_over mv_Mod_over L_Mod_259 (ed_rc_Mod B hP (by decide)) ⟨rfl, rfl⟩ ⟨Nat.le_of_ble_eq_true rfl, Nat.le_of_ble_eq_true rfl⟩ rfl rfl hl.1 (lv_room (Nat.le_of_ble_eq_true rfl)) d_Mod_finish_101 (fun H locs hP hD hS => ?_)
          exact ed_rV B hr hA hP hD hS (Option.some.inj hF) d_Mod_finish_104
        · have hF := vIt c15 hF
          refine lv_aload_n hx hb d_Mod_finish_61 rfl (lv_at hl 1 rfl) ?_
          refine gf_Mod_tAgain B hP (by decide) L_Mod_128 d_Mod_finish_62 ?_
          refine lv_iload_n hx hb d_Mod_finish_65 rfl (lv_at hl 0 rfl) ?_
          obtain ⟨j18, ej19, hj20, hn21, hF⟩ := vG_some hF
          refine il_MtAgain B hP (by decide) hn21 ej19 d_Mod_finish_66 ?_
          refine lv_if_ne (tgt := 97) hx hb d_Mod_finish_67 (by decide) (fun c22 => ?_) (fun c22 => ?_)
          · have hF := vIf c22 hF
            refine lv_aload_n hx hb d_Mod_finish_97 rfl (lv_at hl 1 rfl) ?_
            refine lv_iload_n hx hb d_Mod_finish_98 rfl (lv_at hl 0 rfl) ?_
            refine lv_iconst (v := 4) hx hb d_Mod_finish_99 (by decide) ?_
            refine lv_iconst (v := 0) hx hb d_Mod_finish_100 (by decide) ?_
            obtain ⟨σ23, q24, hF⟩ := vB1_some hF
            refine ed_cvV (As := [.int r3, .int 4, .int 0]) (rest := []) B hP hD hS hA (C_Mod_over l D ad ca r3 4 0 σ1 σ23  q24) me_Mod_over mv_Mod_over L_Mod_259 (ed_rc_Mod B hP (by decide)) ⟨rfl, rfl⟩ ⟨Nat.le_of_ble_eq_true rfl, Nat.le_of_ble_eq_true rfl⟩ rfl rfl hl.1 (lv_room (Nat.le_of_ble_eq_true rfl)) d_Mod_finish_101 (fun H locs hP hD hS => ?_)
            exact ed_rV B hr hA hP hD hS (Option.some.inj hF) d_Mod_finish_104
          · have hF := vIt c22 hF
            refine lv_aload_n hx hb d_Mod_finish_70 rfl (lv_at hl 1 rfl) ?_
            refine gf_Mod_tAgain B hP (by decide) L_Mod_128 d_Mod_finish_71 ?_
            refine lv_iload_n hx hb d_Mod_finish_74 rfl (lv_at hl 0 rfl) ?_
            refine lv_iconst (v := 1) hx hb d_Mod_finish_75 (by decide) ?_
            obtain ⟨j25, ej26, hj27, hn28, hF⟩ := vG_some hF
            obtain ⟨σ29, e30, hF⟩ := vL_some hF
            refine is_MtAgain B hP hD hS (by decide) hn28 ej26 (by decide) e30 d_Mod_finish_76 (fun H locs hP hD hS => ?_)
            refine lv_aload_n hx hb d_Mod_finish_77 rfl (lv_at hl 1 rfl) ?_
            refine gf_Mod_tOrder B hP (by decide) L_Mod_122 d_Mod_finish_78 ?_
            refine lv_iload_n hx hb d_Mod_finish_81 rfl (lv_at hl 0 rfl) ?_
            refine lv_aload_n hx hb d_Mod_finish_82 rfl (lv_at hl 1 rfl) ?_
            refine lv_dup hx hb d_Mod_finish_83 rfl ?_
            refine gf_Mod_orders B hP (by decide) L_Mod_171 d_Mod_finish_84 ?_
            refine lv_iconst (v := 1) hx hb d_Mod_finish_87 (by decide) ?_
            refine lv_iadd hx hb d_Mod_finish_88 ?_
            refine lv_dup_x1 hx hb d_Mod_finish_89 rfl rfl ?_
            obtain ⟨σ31, e32, hF⟩ := vL_some hF
            refine pf_Mod_orders B hP hD hS (by decide) e32 L_Mod_171 d_Mod_finish_90 (fun H locs hP hD hS => ?_)
            obtain ⟨j33, ej34, hj35, hn36, hF⟩ := vG_some hF
            obtain ⟨σ37, e38, hF⟩ := vL_some hF
            refine is_MtOrder B hP hD hS (by decide) hn36 ej34 e38 d_Mod_finish_93 (fun H locs hP hD hS => ?_)
            refine lv_goto (tgt := 104) hx hb d_Mod_finish_94 (by decide) ?_
            exact ed_rV B hr hA hP hD hS (Option.some.inj hF) d_Mod_finish_104
      · have hF := vIf c10 hF
        refine lv_aload_n hx hb d_Mod_finish_34 rfl (lv_at hl 1 rfl) ?_
        refine lv_iload_n hx hb d_Mod_finish_35 rfl (lv_at hl 0 rfl) ?_
        refine lv_iconst (v := 1) hx hb d_Mod_finish_36 (by decide) ?_
        refine lv_aload_n hx hb d_Mod_finish_37 rfl (lv_at hl 1 rfl) ?_
        refine gf_Mod_tLength B hP (by decide) L_Mod_116 d_Mod_finish_38 ?_
        refine lv_iload_n hx hb d_Mod_finish_41 rfl (lv_at hl 0 rfl) ?_
        obtain ⟨j39, ej40, hj41, hn42, hF⟩ := vG_some hF
        refine il_MtLength B hP (by decide) hn42 ej40 d_Mod_finish_42 ?_
        obtain ⟨σ43, q44, hF⟩ := vB1_some hF
        refine ed_cvV (As := [.int r3, .int 1, .int (σ1 35 0 j39)]) (rest := []) B hP hD hS hA (C_Mod_over l D ad ca r3 1 (σ1 35 0 j39) σ1 σ43  q44) me_Mod_over mv_Mod_over L_Mod_259 (ed_rc_Mod B hP (by decide)) ⟨rfl, rfl⟩ ⟨Nat.le_of_ble_eq_true rfl, Nat.le_of_ble_eq_true rfl⟩ rfl rfl hl.1 (lv_room (Nat.le_of_ble_eq_true rfl)) d_Mod_finish_43 (fun H locs hP hD hS => ?_)
        refine lv_goto (tgt := 104) hx hb d_Mod_finish_46 (by decide) ?_
        exact ed_rV B hr hA hP hD hS (Option.some.inj hF) d_Mod_finish_104
    · have hF := vIf c9 hF
      refine lv_aload_n hx hb d_Mod_finish_20 rfl (lv_at hl 1 rfl) ?_
      refine lv_iload_n hx hb d_Mod_finish_21 rfl (lv_at hl 0 rfl) ?_
      refine lv_iconst (v := 5) hx hb d_Mod_finish_22 (by decide) ?_
      refine lv_iconst (v := 0) hx hb d_Mod_finish_23 (by decide) ?_
      obtain ⟨σ45, q46, hF⟩ := vB1_some hF
      refine ed_cvV (As := [.int r3, .int 5, .int 0]) (rest := []) B hP hD hS hA (C_Mod_over l D ad ca r3 5 0 σ1 σ45  q46) me_Mod_over mv_Mod_over L_Mod_259 (ed_rc_Mod B hP (by decide)) ⟨rfl, rfl⟩ ⟨Nat.le_of_ble_eq_true rfl, Nat.le_of_ble_eq_true rfl⟩ rfl rfl hl.1 (lv_room (Nat.le_of_ble_eq_true rfl)) d_Mod_finish_24 (fun H locs hP hD hS => ?_)
      refine lv_goto (tgt := 104) hx hb d_Mod_finish_27 (by decide) ?_
      exact ed_rV B hr hA hP hD hS (Option.some.inj hF) d_Mod_finish_104
  · have hF := vIf c4 hF
    exact ed_rV B hr hA hP hD hS (Option.some.inj hF) d_Mod_finish_10
set_option maxHeartbeats 4000000 in
set_option maxRecDepth 100000 in
theorem C_Mod_finish (l : Launch) (D : va_G) (ad : Nat → Nat) (ca : Nat → ClassId) (x1 : Int32) (x2 : Int32) (σ : ed_S) (σ' : ed_S) (hF : F_Mod_finish x1 x2 σ = some σ') : ed_MV l y_Mod_finish ws_Mod_finish rm_Mod_finish D ca (md_w ad ca) [.ref (ad (pMod 0)), .int x1, .int x2] σ σ' := by
  refine ed_metV (cc := prog_10_method_38_code) (own := "ExecutiveDeskModel") (nL := 4) (ret := none) (by decide) rfl rfl (Nat.le_of_ble_eq_true rfl) ?_
  intro p e s m args below meth c A B hr hA
  exact T_Mod_finish B hr hA x1 x2 σ  hF
abbrev ws_Mod_level : List Cond := Cond.code y_Mod_level prog_10_method_35_code 6 (some .int) :: ed_tb
abbrev rm_Mod_level : Room := { frames := 6, cells := 0, slots := 0, locals := 139 }
def F_Mod_level_129 : Nat → Int32 → Int32 → Int32 → ed_S → Option (Int32 × ed_S)
  | 0, _, _, _, _ => none
  | n + 1, x1, x2, x3, σ => (if (σ 43 0 0) ≤ x3 then (vB2 (F_Mod_end x2 σ) fun r4 σ2 => (some (r4, σ2))) else (vB1 (F_Mod_alert x3 σ) fun σ5 => ((F_Mod_level_129  n) x1 x2 (x3 + 1) σ5)))
def F_Mod_level_70 (k35 : Int32 → Int32 → ed_S → Option (Int32 × ed_S)) : Nat → Int32 → Int32 → Int32 → Int32 → Int32 → ed_S → Option (Int32 × ed_S)
  | 0, _, _, _, _, _, _ => none
  | n + 1, x1, x2, x3, x4, x5, σ => (if (σ 48 0 0) ≤ x5 then (vB1 (F_Mod_finish x3 x4 σ) fun σ2 => (k35 x1 x2 σ2)) else (vG (x5 + 1) 8 fun j4 => (vG x5 8 fun j8 => vL (ed_st σ 40 0 j8 (σ 40 0 j4)) fun σ12 => (vG (x5 + 1) 8 fun j14 => (vC ((σ12 41 0 j14) = 0 ∨ (σ12 41 0 j14) = 1) (vG x5 8 fun j18 => vL (ed_st σ12 41 0 j18 (σ12 41 0 j14)) fun σ22 => ((F_Mod_level_70 k35 n) x1 x2 x3 x4 (x5 + 1) σ22)))))))
def F_Mod_level_35 : Nat → Int32 → Int32 → ed_S → Option (Int32 × ed_S)
  | 0, _, _, _ => none
  | n + 1, x1, x2, σ => (if (σ 48 0 0) ≤ 0 then (F_Mod_level_129  ed_fu x1 x2 0 σ) else (vG 0 8 fun j2 => (vG 0 8 fun j6 => (vL (ed_st σ 48 0 0 ((σ 48 0 0) - 1)) fun σ10 => (F_Mod_level_70 (F_Mod_level_35  n) ed_fu x1 x2 (σ 40 0 j2) (σ 41 0 j6) 0 σ10)))))
def F_Mod_level (x1 : Int32) (σ : ed_S) : Option (Int32 × ed_S) := (if 0 ≤ (σ 44 0 0) then (vB2 (F_Mod_is x1 0 1 σ) fun r4 σ2 => (if r4 = 0 then (some ((-1), σ2)) else (vL (ed_st σ2 47 0 0 x1) fun σ6 => (if x1 = 0 then (F_Mod_level_35  ed_fu x1 (σ2 47 0 0) σ6) else (vB2 (F_Mod_end (σ2 47 0 0) σ6) fun r11 σ9 => (some (r11, σ9))))))) else (some ((-3), σ)))
set_option maxHeartbeats 4000000 in
set_option maxRecDepth 100000 in
theorem T_Mod_level_129 {r : Int32} {σ' : ed_S} (B : ed_B p s m args meth c prog_10_method_35_code "ExecutiveDeskModel" 6 D ca) (hr : meth.sig.returnType = (some .int)) (hA : ∀ q : Nat, s.heap.size ≤ q → A q) : ∀ (n : Nat) (x1 : Int32) (x2 : Int32) (x3 : Int32) (σ : ed_S), F_Mod_level_129  n x1 x2 x3 σ = some (r, σ') → ed_G p l e rm_Mod_level s m args below meth c D ca (md_w ad ca) A (ed_QI D ca (md_w ad ca) A below args s r σ') 6 129 [(0, .ref (ad (pMod 0))), (1, .int x1), (2, .int x2), (3, .int x3)] [] σ := by
  have hx := B.1
  have hb := B.2.1
  intro n
  induction n with
  | zero => intro x1 x2 x3 σ  hF; exact absurd hF (by intro h; cases h)
  | succ n kk129 =>
    intro x1 x2 x3 σ  hF H locs ls hP hD hS hl
    have hF : (if (σ 43 0 0) ≤ x3 then (vB2 (F_Mod_end x2 σ) fun r4 σ2 => (some (r4, σ2))) else (vB1 (F_Mod_alert x3 σ) fun σ5 => ((F_Mod_level_129  n) x1 x2 (x3 + 1) σ5))) = some (r, σ') := hF
    refine lv_iload_n hx hb d_Mod_level_129 rfl (lv_at hl 3 rfl) ?_
    refine lv_aload_n hx hb d_Mod_level_130 rfl (lv_at hl 0 rfl) ?_
    refine gf_Mod_threads B hP (by decide) L_Mod_144 d_Mod_level_131 ?_
    refine lv_icmp_ge (tgt := 148) hx hb d_Mod_level_134 (by decide) (fun c1 => ?_) (fun c1 => ?_)
    · have hF := vIt c1 hF
      refine lv_aload_n hx hb d_Mod_level_148 rfl (lv_at hl 0 rfl) ?_
      refine lv_iload_n hx hb d_Mod_level_149 rfl (lv_at hl 2 rfl) ?_
      obtain ⟨r4, σ2, q3, hF⟩ := vB2_some hF
      refine ed_cvI (As := [.int x2]) (rest := []) B hP hD hS hA (C_Mod_end l D ad ca x2 σ r4 σ2  q3) me_Mod_end mv_Mod_end L_Mod_168 (ed_rc_Mod B hP (by decide)) ⟨rfl, rfl⟩ ⟨Nat.le_of_ble_eq_true rfl, Nat.le_of_ble_eq_true rfl⟩ rfl rfl hl.1 (lv_room (Nat.le_of_ble_eq_true rfl)) d_Mod_level_150 (fun H locs hP hD hS => ?_)
      exact ed_rI B hr hA hP hD hS (vP hF) d_Mod_level_153
    · have hF := vIf c1 hF
      refine lv_aload_n hx hb d_Mod_level_137 rfl (lv_at hl 0 rfl) ?_
      refine lv_iload_n hx hb d_Mod_level_138 rfl (lv_at hl 3 rfl) ?_
      obtain ⟨σ5, q6, hF⟩ := vB1_some hF
      refine ed_cvV (As := [.int x3]) (rest := []) B hP hD hS hA (C_Mod_alert l D ad ca x3 σ σ5  q6) me_Mod_alert mv_Mod_alert L_Mod_243 (ed_rc_Mod B hP (by decide)) ⟨rfl, rfl⟩ ⟨Nat.le_of_ble_eq_true rfl, Nat.le_of_ble_eq_true rfl⟩ rfl rfl hl.1 (lv_room (Nat.le_of_ble_eq_true rfl)) d_Mod_level_139 (fun H locs hP hD hS => ?_)
      refine lv_iinc (v := (x3 + 1)) (lv' := [(3, .int (x3 + 1)), (0, .ref (ad (pMod 0))), (1, .int x1), (2, .int x2)]) hx hb d_Mod_level_142 hl (k := 3) rfl rfl (by decide) rfl (fun ls hl => ?_)
      refine lv_goto (tgt := 129) hx hb d_Mod_level_145 (by decide) ?_
      exact kk129 x1 x2 (x3 + 1) σ5  hF _ _ _ hP hD hS (lv_sub hl [1, 2, 3, 0] rfl)
set_option maxHeartbeats 4000000 in
set_option maxRecDepth 100000 in
theorem T_Mod_level_70 {r : Int32} {σ' : ed_S} {k35 : Int32 → Int32 → ed_S → Option (Int32 × ed_S)} (B : ed_B p s m args meth c prog_10_method_35_code "ExecutiveDeskModel" 6 D ca) (hr : meth.sig.returnType = (some .int)) (hA : ∀ q : Nat, s.heap.size ≤ q → A q) (kk35 : ∀ (x1 : Int32) (x2 : Int32) (σ : ed_S), k35 x1 x2 σ = some (r, σ') → ed_G p l e rm_Mod_level s m args below meth c D ca (md_w ad ca) A (ed_QI D ca (md_w ad ca) A below args s r σ') 6 35 [(0, .ref (ad (pMod 0))), (1, .int x1), (2, .int x2)] [] σ) : ∀ (n : Nat) (x1 : Int32) (x2 : Int32) (x3 : Int32) (x4 : Int32) (x5 : Int32) (σ : ed_S), F_Mod_level_70 k35 n x1 x2 x3 x4 x5 σ = some (r, σ') → ed_G p l e rm_Mod_level s m args below meth c D ca (md_w ad ca) A (ed_QI D ca (md_w ad ca) A below args s r σ') 6 70 [(0, .ref (ad (pMod 0))), (1, .int x1), (2, .int x2), (3, .int x3), (4, .int x4), (5, .int x5)] [] σ := by
  have hx := B.1
  have hb := B.2.1
  intro n
  induction n with
  | zero => intro x1 x2 x3 x4 x5 σ  hF; exact absurd hF (by intro h; cases h)
  | succ n kk70 =>
    intro x1 x2 x3 x4 x5 σ  hF H locs ls hP hD hS hl
    have hF : (if (σ 48 0 0) ≤ x5 then (vB1 (F_Mod_finish x3 x4 σ) fun σ2 => (k35 x1 x2 σ2)) else (vG (x5 + 1) 8 fun j4 => (vG x5 8 fun j8 => vL (ed_st σ 40 0 j8 (σ 40 0 j4)) fun σ12 => (vG (x5 + 1) 8 fun j14 => (vC ((σ12 41 0 j14) = 0 ∨ (σ12 41 0 j14) = 1) (vG x5 8 fun j18 => vL (ed_st σ12 41 0 j18 (σ12 41 0 j14)) fun σ22 => ((F_Mod_level_70 k35 n) x1 x2 x3 x4 (x5 + 1) σ22))))))) = some (r, σ') := hF
    refine lv_iload hx hb d_Mod_level_70 (lv_at hl 5 rfl) ?_
    refine lv_aload_n hx hb d_Mod_level_72 rfl (lv_at hl 0 rfl) ?_
    refine gf_Mod_interrupts B hP (by decide) L_Mod_147 d_Mod_level_73 ?_
    refine lv_icmp_ge (tgt := 117) hx hb d_Mod_level_76 (by decide) (fun c1 => ?_) (fun c1 => ?_)
    · have hF := vIt c1 hF
      refine lv_aload_n hx hb d_Mod_level_117 rfl (lv_at hl 0 rfl) ?_
      refine lv_iload_n hx hb d_Mod_level_118 rfl (lv_at hl 3 rfl) ?_
      refine lv_iload hx hb d_Mod_level_119 (lv_at hl 4 rfl) ?_
      obtain ⟨σ2, q3, hF⟩ := vB1_some hF
      refine ed_cvV (As := [.int x3, .int x4]) (rest := []) B hP hD hS hA (C_Mod_finish l D ad ca x3 x4 σ σ2  q3) me_Mod_finish mv_Mod_finish L_Mod_246 (ed_rc_Mod B hP (by decide)) ⟨rfl, rfl⟩ ⟨Nat.le_of_ble_eq_true rfl, Nat.le_of_ble_eq_true rfl⟩ rfl rfl hl.1 (lv_room (Nat.le_of_ble_eq_true rfl)) d_Mod_level_121 (fun H locs hP hD hS => ?_)
      refine lv_goto (tgt := 35) hx hb d_Mod_level_124 (by decide) ?_
      exact kk35 x1 x2 σ2  hF _ _ _ hP hD hS (lv_sub hl [0, 1, 2] rfl)
    · have hF := vIf c1 hF
      refine lv_aload_n hx hb d_Mod_level_79 rfl (lv_at hl 0 rfl) ?_
      refine gf_Mod_waiting B hP (by decide) L_Mod_131 d_Mod_level_80 ?_
      refine lv_iload hx hb d_Mod_level_83 (lv_at hl 5 rfl) ?_
      refine lv_aload_n hx hb d_Mod_level_85 rfl (lv_at hl 0 rfl) ?_
      refine gf_Mod_waiting B hP (by decide) L_Mod_131 d_Mod_level_86 ?_
      refine lv_iload hx hb d_Mod_level_89 (lv_at hl 5 rfl) ?_
      refine lv_iconst (v := 1) hx hb d_Mod_level_91 (by decide) ?_
      refine lv_iadd hx hb d_Mod_level_92 ?_
      obtain ⟨j4, ej5, hj6, hn7, hF⟩ := vG_some hF
      refine il_Mwaiting B hP (by decide) hn7 ej5 d_Mod_level_93 ?_
      obtain ⟨j8, ej9, hj10, hn11, hF⟩ := vG_some hF
      obtain ⟨σ12, e13, hF⟩ := vL_some hF
      refine is_Mwaiting B hP hD hS (by decide) hn11 ej9 e13 d_Mod_level_94 (fun H locs hP hD hS => ?_)
      refine lv_aload_n hx hb d_Mod_level_95 rfl (lv_at hl 0 rfl) ?_
      refine gf_Mod_waitingWell B hP (by decide) L_Mod_134 d_Mod_level_96 ?_
      refine lv_iload hx hb d_Mod_level_99 (lv_at hl 5 rfl) ?_
      refine lv_aload_n hx hb d_Mod_level_101 rfl (lv_at hl 0 rfl) ?_
      refine gf_Mod_waitingWell B hP (by decide) L_Mod_134 d_Mod_level_102 ?_
      refine lv_iload hx hb d_Mod_level_105 (lv_at hl 5 rfl) ?_
      refine lv_iconst (v := 1) hx hb d_Mod_level_107 (by decide) ?_
      refine lv_iadd hx hb d_Mod_level_108 ?_
      obtain ⟨j14, ej15, hj16, hn17, hF⟩ := vG_some hF
      refine il_MwaitingWell B hP (by decide) hn17 ej15 d_Mod_level_109 ?_
      obtain ⟨z24, hF⟩ := vC_some hF
      obtain ⟨j18, ej19, hj20, hn21, hF⟩ := vG_some hF
      obtain ⟨σ22, e23, hF⟩ := vL_some hF
      refine is_MwaitingWell B hP hD hS (by decide) hn21 ej19 z24 e23 d_Mod_level_110 (fun H locs hP hD hS => ?_)
      refine lv_iinc (v := (x5 + 1)) (lv' := [(5, .int (x5 + 1)), (0, .ref (ad (pMod 0))), (1, .int x1), (2, .int x2), (3, .int x3), (4, .int x4)]) hx hb d_Mod_level_111 hl (k := 5) rfl rfl (by decide) rfl (fun ls hl => ?_)
      refine lv_goto (tgt := 70) hx hb d_Mod_level_114 (by decide) ?_
      exact kk70 x1 x2 x3 x4 (x5 + 1) σ22  hF _ _ _ hP hD hS (lv_sub hl [1, 2, 3, 4, 5, 0] rfl)
set_option maxHeartbeats 4000000 in
set_option maxRecDepth 100000 in
theorem T_Mod_level_35 {r : Int32} {σ' : ed_S} (B : ed_B p s m args meth c prog_10_method_35_code "ExecutiveDeskModel" 6 D ca) (hr : meth.sig.returnType = (some .int)) (hA : ∀ q : Nat, s.heap.size ≤ q → A q) : ∀ (n : Nat) (x1 : Int32) (x2 : Int32) (σ : ed_S), F_Mod_level_35  n x1 x2 σ = some (r, σ') → ed_G p l e rm_Mod_level s m args below meth c D ca (md_w ad ca) A (ed_QI D ca (md_w ad ca) A below args s r σ') 6 35 [(0, .ref (ad (pMod 0))), (1, .int x1), (2, .int x2)] [] σ := by
  have hx := B.1
  have hb := B.2.1
  intro n
  induction n with
  | zero => intro x1 x2 σ  hF; exact absurd hF (by intro h; cases h)
  | succ n kk35 =>
    intro x1 x2 σ  hF H locs ls hP hD hS hl
    have hF : (if (σ 48 0 0) ≤ 0 then (F_Mod_level_129  ed_fu x1 x2 0 σ) else (vG 0 8 fun j2 => (vG 0 8 fun j6 => (vL (ed_st σ 48 0 0 ((σ 48 0 0) - 1)) fun σ10 => (F_Mod_level_70 (F_Mod_level_35  n) ed_fu x1 x2 (σ 40 0 j2) (σ 41 0 j6) 0 σ10))))) = some (r, σ') := hF
    refine lv_aload_n hx hb d_Mod_level_35 rfl (lv_at hl 0 rfl) ?_
    refine gf_Mod_interrupts B hP (by decide) L_Mod_147 d_Mod_level_36 ?_
    refine lv_if_le (tgt := 127) hx hb d_Mod_level_39 (by decide) (fun c1 => ?_) (fun c1 => ?_)
    · have hF := vIt c1 hF
      refine lv_iconst (v := 0) hx hb d_Mod_level_127 (by decide) ?_
      refine lv_istore_n (lv' := [(3, .int 0), (0, .ref (ad (pMod 0))), (1, .int x1), (2, .int x2)]) hx hb d_Mod_level_128 rfl hl (by decide) rfl (fun ls hl => ?_)
      exact T_Mod_level_129 B hr hA  ed_fu x1 x2 0 σ  hF _ _ _ hP hD hS (lv_sub hl [1, 2, 3, 0] rfl)
    · have hF := vIf c1 hF
      refine lv_aload_n hx hb d_Mod_level_42 rfl (lv_at hl 0 rfl) ?_
      refine gf_Mod_waiting B hP (by decide) L_Mod_131 d_Mod_level_43 ?_
      refine lv_iconst (v := 0) hx hb d_Mod_level_46 (by decide) ?_
      obtain ⟨j2, ej3, hj4, hn5, hF⟩ := vG_some hF
      refine il_Mwaiting B hP (by decide) hn5 ej3 d_Mod_level_47 ?_
      refine lv_istore_n (lv' := [(3, .int (σ 40 0 j2)), (0, .ref (ad (pMod 0))), (1, .int x1), (2, .int x2)]) hx hb d_Mod_level_48 rfl hl (by decide) rfl (fun ls hl => ?_)
      refine lv_aload_n hx hb d_Mod_level_49 rfl (lv_at hl 1 rfl) ?_
      refine gf_Mod_waitingWell B hP (by decide) L_Mod_134 d_Mod_level_50 ?_
      refine lv_iconst (v := 0) hx hb d_Mod_level_53 (by decide) ?_
      obtain ⟨j6, ej7, hj8, hn9, hF⟩ := vG_some hF
      refine il_MwaitingWell B hP (by decide) hn9 ej7 d_Mod_level_54 ?_
      refine lv_istore (lv' := [(4, .int (σ 41 0 j6)), (3, .int (σ 40 0 j2)), (0, .ref (ad (pMod 0))), (1, .int x1), (2, .int x2)]) hx hb d_Mod_level_55 hl (by decide) rfl (fun ls hl => ?_)
      refine lv_aload_n hx hb d_Mod_level_57 rfl (lv_at hl 2 rfl) ?_
      refine lv_dup hx hb d_Mod_level_58 rfl ?_
      refine gf_Mod_interrupts B hP (by decide) L_Mod_147 d_Mod_level_59 ?_
      refine lv_iconst (v := 1) hx hb d_Mod_level_62 (by decide) ?_
      refine lv_isub hx hb d_Mod_level_63 ?_
      obtain ⟨σ10, e11, hF⟩ := vL_some hF
      refine pf_Mod_interrupts B hP hD hS (by decide) e11 L_Mod_147 d_Mod_level_64 (fun H locs hP hD hS => ?_)
      refine lv_iconst (v := 0) hx hb d_Mod_level_67 (by decide) ?_
      refine lv_istore (lv' := [(5, .int 0), (4, .int (σ 41 0 j6)), (3, .int (σ 40 0 j2)), (0, .ref (ad (pMod 0))), (1, .int x1), (2, .int x2)]) hx hb d_Mod_level_68 hl (by decide) rfl (fun ls hl => ?_)
      exact T_Mod_level_70 B hr hA kk35 ed_fu x1 x2 (σ 40 0 j2) (σ 41 0 j6) 0 σ10  hF _ _ _ hP hD hS (lv_sub hl [3, 4, 5, 2, 1, 0] rfl)
set_option maxHeartbeats 4000000 in
set_option maxRecDepth 100000 in
theorem T_Mod_level {r : Int32} {σ' : ed_S} (B : ed_B p s m args meth c prog_10_method_35_code "ExecutiveDeskModel" 6 D ca) (hr : meth.sig.returnType = (some .int)) (hA : ∀ q : Nat, s.heap.size ≤ q → A q) : ∀ (x1 : Int32) (σ : ed_S), F_Mod_level  x1 σ = some (r, σ') → ed_G p l e rm_Mod_level s m args below meth c D ca (md_w ad ca) A (ed_QI D ca (md_w ad ca) A below args s r σ') 6 0 [(0, .ref (ad (pMod 0))), (1, .int x1)] [] σ := by
  have hx := B.1
  have hb := B.2.1
  intro x1 σ  hF H locs ls hP hD hS hl
  have hF : (if 0 ≤ (σ 44 0 0) then (vB2 (F_Mod_is x1 0 1 σ) fun r4 σ2 => (if r4 = 0 then (some ((-1), σ2)) else (vL (ed_st σ2 47 0 0 x1) fun σ6 => (if x1 = 0 then (F_Mod_level_35  ed_fu x1 (σ2 47 0 0) σ6) else (vB2 (F_Mod_end (σ2 47 0 0) σ6) fun r11 σ9 => (some (r11, σ9))))))) else (some ((-3), σ))) = some (r, σ') := hF
  refine lv_aload_n hx hb d_Mod_level_0 rfl (lv_at hl 0 rfl) ?_
  refine gf_Mod_running B hP (by decide) L_Mod_137 d_Mod_level_1 ?_
  refine lv_if_ge (tgt := 10) hx hb d_Mod_level_4 (by decide) (fun c1 => ?_) (fun c1 => ?_)
  · have hF := vIt c1 hF
    refine lv_iload_n hx hb d_Mod_level_10 rfl (lv_at hl 1 rfl) ?_
    refine lv_iconst (v := 0) hx hb d_Mod_level_11 (by decide) ?_
    refine lv_iconst (v := 1) hx hb d_Mod_level_12 (by decide) ?_
    obtain ⟨r4, σ2, q3, hF⟩ := vB2_some hF
    refine ed_csI (As := [.int x1, .int 0, .int 1]) (rest := []) B hP hD hS hA (C_Mod_is l D ad ca x1 0 1 σ r4 σ2  q3) me_Mod_is st_Mod_is L_Mod_157 ⟨rfl, rfl⟩ ⟨Nat.le_of_ble_eq_true rfl, Nat.le_of_ble_eq_true rfl⟩ rfl rfl hl.1 (lv_room (Nat.le_of_ble_eq_true rfl)) d_Mod_level_13 (fun H locs hP hD hS => ?_)
    refine lv_if_ne (tgt := 21) hx hb d_Mod_level_16 (by decide) (fun c5 => ?_) (fun c5 => ?_)
    · have hF := vIf c5 hF
      refine lv_aload_n hx hb d_Mod_level_21 rfl (lv_at hl 0 rfl) ?_
      refine gf_Mod_level B hP (by decide) L_Mod_177 d_Mod_level_22 ?_
      refine lv_istore_n (lv' := [(2, .int (σ2 47 0 0)), (0, .ref (ad (pMod 0))), (1, .int x1)]) hx hb d_Mod_level_25 rfl hl (by decide) rfl (fun ls hl => ?_)
      refine lv_aload_n hx hb d_Mod_level_26 rfl (lv_at hl 1 rfl) ?_
      refine lv_iload_n hx hb d_Mod_level_27 rfl (lv_at hl 2 rfl) ?_
      obtain ⟨σ6, e7, hF⟩ := vL_some hF
      refine pf_Mod_level B hP hD hS (by decide) e7 L_Mod_177 d_Mod_level_28 (fun H locs hP hD hS => ?_)
      refine lv_iload_n hx hb d_Mod_level_31 rfl (lv_at hl 2 rfl) ?_
      refine lv_if_ne (tgt := 148) hx hb d_Mod_level_32 (by decide) (fun c8 => ?_) (fun c8 => ?_)
      · have hF := vIf c8 hF
        refine lv_aload_n hx hb d_Mod_level_148 rfl (lv_at hl 1 rfl) ?_
        refine lv_iload_n hx hb d_Mod_level_149 rfl (lv_at hl 0 rfl) ?_
        obtain ⟨r11, σ9, q10, hF⟩ := vB2_some hF
        refine ed_cvI (As := [.int (σ2 47 0 0)]) (rest := []) B hP hD hS hA (C_Mod_end l D ad ca (σ2 47 0 0) σ6 r11 σ9  q10) me_Mod_end mv_Mod_end L_Mod_168 (ed_rc_Mod B hP (by decide)) ⟨rfl, rfl⟩ ⟨Nat.le_of_ble_eq_true rfl, Nat.le_of_ble_eq_true rfl⟩ rfl rfl hl.1 (lv_room (Nat.le_of_ble_eq_true rfl)) d_Mod_level_150 (fun H locs hP hD hS => ?_)
        exact ed_rI B hr hA hP hD hS (vP hF) d_Mod_level_153
      · have hF := vIt c8 hF
        exact T_Mod_level_35 B hr hA  ed_fu x1 (σ2 47 0 0) σ6  hF _ _ _ hP hD hS (lv_sub hl [1, 2, 0] rfl)
    · have hF := vIt c5 hF
      refine lv_iconst (v := (-1)) hx hb d_Mod_level_19 (by decide) ?_
      exact ed_rI B hr hA hP hD hS (vP hF) d_Mod_level_20
  · have hF := vIf c1 hF
    refine lv_bipush (v := (-3)) hx hb d_Mod_level_7 (by decide) ?_
    exact ed_rI B hr hA hP hD hS (vP hF) d_Mod_level_9
set_option maxHeartbeats 4000000 in
set_option maxRecDepth 100000 in
theorem C_Mod_level (l : Launch) (D : va_G) (ad : Nat → Nat) (ca : Nat → ClassId) (x1 : Int32) (σ : ed_S) (r : Int32) (σ' : ed_S) (hF : F_Mod_level x1 σ = some (r, σ')) : ed_MI l y_Mod_level ws_Mod_level rm_Mod_level D ca (md_w ad ca) [.ref (ad (pMod 0)), .int x1] σ r σ' := by
  refine ed_metI (cc := prog_10_method_35_code) (own := "ExecutiveDeskModel") (nL := 6) (ret := (some .int)) (by decide) rfl rfl (Nat.le_of_ble_eq_true rfl) ?_
  intro p e s m args below meth c A B hr hA
  exact T_Mod_level B hr hA x1 σ  hF
abbrev ws_Mod_interrupt : List Cond := Cond.code y_Mod_interrupt prog_10_method_39_code 3 (some .int) :: ed_tb
abbrev rm_Mod_interrupt : Room := { frames := 6, cells := 0, slots := 0, locals := 139 }
def F_Mod_interrupt (x1 : Int32) (x2 : Int32) (σ : ed_S) : Option (Int32 × ed_S) := (vB2 (F_Mod_is x1 0 15 σ) fun r3 σ1 => (if r3 = 0 then (some ((-1), σ1)) else (vG x1 16 fun j5 => (if (σ1 19 0 j5) = 0 then (some ((-1), σ1)) else (vG x1 16 fun j10 => (if (σ1 22 0 j10) = 5 then (if (σ1 47 0 0) = 0 then (vB1 (F_Mod_finish x1 x2 σ1) fun σ32 => (vB2 (F_Mod_end 1 σ32) fun r36 σ34 => (some (r36, σ34)))) else (if (σ1 48 0 0) = 8 then (some ((-2), σ1)) else (vG (σ1 48 0 0) 8 fun j17 => vL (ed_st σ1 40 0 j17 x1) fun σ21 => (vL (ed_st σ21 48 0 0 ((σ21 48 0 0) + 1)) fun σ23 => (vC (x2 = 0 ∨ x2 = 1) (vG (σ21 48 0 0) 8 fun j25 => vL (ed_st σ23 41 0 j25 x2) fun σ29 => (some (0, σ29)))))))) else (some ((-1), σ1))))))))
set_option maxHeartbeats 4000000 in
set_option maxRecDepth 100000 in
theorem T_Mod_interrupt {r : Int32} {σ' : ed_S} (B : ed_B p s m args meth c prog_10_method_39_code "ExecutiveDeskModel" 3 D ca) (hr : meth.sig.returnType = (some .int)) (hA : ∀ q : Nat, s.heap.size ≤ q → A q) : ∀ (x1 : Int32) (x2 : Int32) (σ : ed_S), F_Mod_interrupt  x1 x2 σ = some (r, σ') → ed_G p l e rm_Mod_interrupt s m args below meth c D ca (md_w ad ca) A (ed_QI D ca (md_w ad ca) A below args s r σ') 3 0 [(0, .ref (ad (pMod 0))), (1, .int x1), (2, .int x2)] [] σ := by
  have hx := B.1
  have hb := B.2.1
  intro x1 x2 σ  hF H locs ls hP hD hS hl
  have hF : (vB2 (F_Mod_is x1 0 15 σ) fun r3 σ1 => (if r3 = 0 then (some ((-1), σ1)) else (vG x1 16 fun j5 => (if (σ1 19 0 j5) = 0 then (some ((-1), σ1)) else (vG x1 16 fun j10 => (if (σ1 22 0 j10) = 5 then (if (σ1 47 0 0) = 0 then (vB1 (F_Mod_finish x1 x2 σ1) fun σ32 => (vB2 (F_Mod_end 1 σ32) fun r36 σ34 => (some (r36, σ34)))) else (if (σ1 48 0 0) = 8 then (some ((-2), σ1)) else (vG (σ1 48 0 0) 8 fun j17 => vL (ed_st σ1 40 0 j17 x1) fun σ21 => (vL (ed_st σ21 48 0 0 ((σ21 48 0 0) + 1)) fun σ23 => (vC (x2 = 0 ∨ x2 = 1) (vG (σ21 48 0 0) 8 fun j25 => vL (ed_st σ23 41 0 j25 x2) fun σ29 => (some (0, σ29)))))))) else (some ((-1), σ1)))))))) = some (r, σ') := hF
  refine lv_iload_n hx hb d_Mod_interrupt_0 rfl (lv_at hl 1 rfl) ?_
  refine lv_iconst (v := 0) hx hb d_Mod_interrupt_1 (by decide) ?_
  refine lv_bipush (v := 15) hx hb d_Mod_interrupt_2 (by decide) ?_
  obtain ⟨r3, σ1, q2, hF⟩ := vB2_some hF
  refine ed_csI (As := [.int x1, .int 0, .int 15]) (rest := []) B hP hD hS hA (C_Mod_is l D ad ca x1 0 15 σ r3 σ1  q2) me_Mod_is st_Mod_is L_Mod_157 ⟨rfl, rfl⟩ ⟨Nat.le_of_ble_eq_true rfl, Nat.le_of_ble_eq_true rfl⟩ rfl rfl hl.1 (lv_room (Nat.le_of_ble_eq_true rfl)) d_Mod_interrupt_4 (fun H locs hP hD hS => ?_)
  refine lv_if_eq (tgt := 29) hx hb d_Mod_interrupt_7 (by decide) (fun c4 => ?_) (fun c4 => ?_)
  · have hF := vIt c4 hF
    refine lv_iconst (v := (-1)) hx hb d_Mod_interrupt_29 (by decide) ?_
    exact ed_rI B hr hA hP hD hS (vP hF) d_Mod_interrupt_30
  · have hF := vIf c4 hF
    refine lv_aload_n hx hb d_Mod_interrupt_10 rfl (lv_at hl 0 rfl) ?_
    refine gf_Mod_there B hP (by decide) L_Mod_67 d_Mod_interrupt_11 ?_
    refine lv_iload_n hx hb d_Mod_interrupt_14 rfl (lv_at hl 1 rfl) ?_
    obtain ⟨j5, ej6, hj7, hn8, hF⟩ := vG_some hF
    refine il_Mthere B hP (by decide) hn8 ej6 d_Mod_interrupt_15 ?_
    refine lv_if_eq (tgt := 29) hx hb d_Mod_interrupt_16 (by decide) (fun c9 => ?_) (fun c9 => ?_)
    · have hF := vIt c9 hF
      refine lv_iconst (v := (-1)) hx hb d_Mod_interrupt_29 (by decide) ?_
      exact ed_rI B hr hA hP hD hS (vP hF) d_Mod_interrupt_30
    · have hF := vIf c9 hF
      refine lv_aload_n hx hb d_Mod_interrupt_19 rfl (lv_at hl 0 rfl) ?_
      refine gf_Mod_type B hP (by decide) L_Mod_77 d_Mod_interrupt_20 ?_
      refine lv_iload_n hx hb d_Mod_interrupt_23 rfl (lv_at hl 1 rfl) ?_
      obtain ⟨j10, ej11, hj12, hn13, hF⟩ := vG_some hF
      refine il_Mtype B hP (by decide) hn13 ej11 d_Mod_interrupt_24 ?_
      refine lv_iconst (v := 5) hx hb d_Mod_interrupt_25 (by decide) ?_
      refine lv_icmp_eq (tgt := 31) hx hb d_Mod_interrupt_26 (by decide) (fun c14 => ?_) (fun c14 => ?_)
      · have hF := vIt c14 hF
        refine lv_aload_n hx hb d_Mod_interrupt_31 rfl (lv_at hl 0 rfl) ?_
        refine gf_Mod_level B hP (by decide) L_Mod_177 d_Mod_interrupt_32 ?_
        refine lv_if_ne (tgt := 50) hx hb d_Mod_interrupt_35 (by decide) (fun c15 => ?_) (fun c15 => ?_)
        · have hF := vIf c15 hF
          refine lv_aload_n hx hb d_Mod_interrupt_50 rfl (lv_at hl 0 rfl) ?_
          refine gf_Mod_interrupts B hP (by decide) L_Mod_147 d_Mod_interrupt_51 ?_
          refine lv_bipush (v := 8) hx hb d_Mod_interrupt_54 (by decide) ?_
          refine lv_icmp_ne (tgt := 62) hx hb d_Mod_interrupt_56 (by decide) (fun c16 => ?_) (fun c16 => ?_)
          · have hF := vIf c16 hF
            refine lv_aload_n hx hb d_Mod_interrupt_62 rfl (lv_at hl 0 rfl) ?_
            refine gf_Mod_waiting B hP (by decide) L_Mod_131 d_Mod_interrupt_63 ?_
            refine lv_aload_n hx hb d_Mod_interrupt_66 rfl (lv_at hl 0 rfl) ?_
            refine gf_Mod_interrupts B hP (by decide) L_Mod_147 d_Mod_interrupt_67 ?_
            refine lv_iload_n hx hb d_Mod_interrupt_70 rfl (lv_at hl 1 rfl) ?_
            obtain ⟨j17, ej18, hj19, hn20, hF⟩ := vG_some hF
            obtain ⟨σ21, e22, hF⟩ := vL_some hF
            refine is_Mwaiting B hP hD hS (by decide) hn20 ej18 e22 d_Mod_interrupt_71 (fun H locs hP hD hS => ?_)
            refine lv_aload_n hx hb d_Mod_interrupt_72 rfl (lv_at hl 0 rfl) ?_
            refine gf_Mod_waitingWell B hP (by decide) L_Mod_134 d_Mod_interrupt_73 ?_
            refine lv_aload_n hx hb d_Mod_interrupt_76 rfl (lv_at hl 0 rfl) ?_
            refine lv_dup hx hb d_Mod_interrupt_77 rfl ?_
            refine gf_Mod_interrupts B hP (by decide) L_Mod_147 d_Mod_interrupt_78 ?_
            refine lv_dup_x1 hx hb d_Mod_interrupt_81 rfl rfl ?_
            refine lv_iconst (v := 1) hx hb d_Mod_interrupt_82 (by decide) ?_
            refine lv_iadd hx hb d_Mod_interrupt_83 ?_
            obtain ⟨σ23, e24, hF⟩ := vL_some hF
            refine pf_Mod_interrupts B hP hD hS (by decide) e24 L_Mod_147 d_Mod_interrupt_84 (fun H locs hP hD hS => ?_)
            refine lv_iload_n hx hb d_Mod_interrupt_87 rfl (lv_at hl 2 rfl) ?_
            obtain ⟨z31, hF⟩ := vC_some hF
            obtain ⟨j25, ej26, hj27, hn28, hF⟩ := vG_some hF
            obtain ⟨σ29, e30, hF⟩ := vL_some hF
            refine is_MwaitingWell B hP hD hS (by decide) hn28 ej26 z31 e30 d_Mod_interrupt_88 (fun H locs hP hD hS => ?_)
            refine lv_iconst (v := 0) hx hb d_Mod_interrupt_89 (by decide) ?_
            exact ed_rI B hr hA hP hD hS (vP hF) d_Mod_interrupt_90
          · have hF := vIt c16 hF
            refine lv_bipush (v := (-2)) hx hb d_Mod_interrupt_59 (by decide) ?_
            exact ed_rI B hr hA hP hD hS (vP hF) d_Mod_interrupt_61
        · have hF := vIt c15 hF
          refine lv_aload_n hx hb d_Mod_interrupt_38 rfl (lv_at hl 0 rfl) ?_
          refine lv_iload_n hx hb d_Mod_interrupt_39 rfl (lv_at hl 1 rfl) ?_
          refine lv_iload_n hx hb d_Mod_interrupt_40 rfl (lv_at hl 2 rfl) ?_
          obtain ⟨σ32, q33, hF⟩ := vB1_some hF
          refine ed_cvV (As := [.int x1, .int x2]) (rest := []) B hP hD hS hA (C_Mod_finish l D ad ca x1 x2 σ1 σ32  q33) me_Mod_finish mv_Mod_finish L_Mod_246 (ed_rc_Mod B hP (by decide)) ⟨rfl, rfl⟩ ⟨Nat.le_of_ble_eq_true rfl, Nat.le_of_ble_eq_true rfl⟩ rfl rfl hl.1 (lv_room (Nat.le_of_ble_eq_true rfl)) d_Mod_interrupt_41 (fun H locs hP hD hS => ?_)
          refine lv_aload_n hx hb d_Mod_interrupt_44 rfl (lv_at hl 0 rfl) ?_
          refine lv_iconst (v := 1) hx hb d_Mod_interrupt_45 (by decide) ?_
          obtain ⟨r36, σ34, q35, hF⟩ := vB2_some hF
          refine ed_cvI (As := [.int 1]) (rest := []) B hP hD hS hA (C_Mod_end l D ad ca 1 σ32 r36 σ34  q35) me_Mod_end mv_Mod_end L_Mod_168 (ed_rc_Mod B hP (by decide)) ⟨rfl, rfl⟩ ⟨Nat.le_of_ble_eq_true rfl, Nat.le_of_ble_eq_true rfl⟩ rfl rfl hl.1 (lv_room (Nat.le_of_ble_eq_true rfl)) d_Mod_interrupt_46 (fun H locs hP hD hS => ?_)
          exact ed_rI B hr hA hP hD hS (vP hF) d_Mod_interrupt_49
      · have hF := vIf c14 hF
        refine lv_iconst (v := (-1)) hx hb d_Mod_interrupt_29 (by decide) ?_
        exact ed_rI B hr hA hP hD hS (vP hF) d_Mod_interrupt_30
set_option maxHeartbeats 4000000 in
set_option maxRecDepth 100000 in
theorem C_Mod_interrupt (l : Launch) (D : va_G) (ad : Nat → Nat) (ca : Nat → ClassId) (x1 : Int32) (x2 : Int32) (σ : ed_S) (r : Int32) (σ' : ed_S) (hF : F_Mod_interrupt x1 x2 σ = some (r, σ')) : ed_MI l y_Mod_interrupt ws_Mod_interrupt rm_Mod_interrupt D ca (md_w ad ca) [.ref (ad (pMod 0)), .int x1, .int x2] σ r σ' := by
  refine ed_metI (cc := prog_10_method_39_code) (own := "ExecutiveDeskModel") (nL := 3) (ret := (some .int)) (by decide) rfl rfl (Nat.le_of_ble_eq_true rfl) ?_
  intro p e s m args below meth c A B hr hA
  exact T_Mod_interrupt B hr hA x1 x2 σ  hF
abbrev ws_Mod_transfer : List Cond := Cond.code y_Mod_transfer prog_10_method_40_code 9 (some .int) :: ed_tb
abbrev rm_Mod_transfer : Room := { frames := 5, cells := 0, slots := 0, locals := 116 }
def F_Mod_transfer_329 (x1 : Int32) (x2 : Int32) (x3 : Int32) (x4 : Int32) (x5 : Int32) (x6 : Int32) (x7 : Int32) (x8 : Int32) (σ : ed_S) : Option (Int32 × ed_S) := (if x8 = 0 then (vB2 (F_Mod_end x5 σ) fun r4 σ2 => (some (r4, σ2))) else (if x3 ≤ (128 - x2) then (vB2 (F_Mod_end x5 σ) fun r8 σ6 => (some (r8, σ6))) else (vG x5 8 fun j9 => vL (ed_st σ 35 0 j9 (128 - x2)) fun σ13 => (vB2 (F_Mod_end x5 σ13) fun r17 σ15 => (some (r17, σ15))))))
def F_Mod_transfer_306 (x1 : Int32) (x2 : Int32) (x3 : Int32) (x4 : Int32) (x5 : Int32) (x6 : Int32) (x7 : Int32) (x8 : Int32) (σ : ed_S) : Option (Int32 × ed_S) := (if x8 = 0 then (F_Mod_transfer_329  x1 x2 x3 x4 x5 x6 x7 x8 σ) else (if x2 < 128 then (F_Mod_transfer_329  x1 x2 x3 x4 x5 x6 x7 x8 σ) else (vB1 (F_Mod_over x5 3 0 σ) fun σ3 => (vB2 (F_Mod_end x5 σ3) fun r7 σ5 => (some (r7, σ5))))))
def F_Mod_transfer_246 (x1 : Int32) (x2 : Int32) (x3 : Int32) (x4 : Int32) (x5 : Int32) (x6 : Int32) (x7 : Int32) (x8 : Int32) (s0 : Int32) (s1 : Int32) (σ : ed_S) : Option (Int32 × ed_S) := (vG s1 8 fun j1 => vL (ed_st σ 36 0 j1 s0) fun σ5 => (vL (ed_st σ5 51 0 0 ((σ5 51 0 0) + 1)) fun σ7 => (vG x5 8 fun j9 => vL (ed_st σ7 37 0 j9 ((σ5 51 0 0) + 1)) fun σ13 => (vG x5 8 fun j15 => vL (ed_st σ13 38 0 j15 0) fun σ19 => (vG x5 8 fun j21 => vL (ed_st σ19 39 0 j21 0) fun σ25 => (if (x7 &&& 1) = 1 then (if x3 ≤ 64 then (F_Mod_transfer_306  x1 x2 x3 x4 x5 x6 x7 x8 σ25) else (vB1 (F_Mod_over x5 2 0 σ25) fun σ29 => (vB2 (F_Mod_end x5 σ29) fun r33 σ31 => (some (r33, σ31))))) else (F_Mod_transfer_306  x1 x2 x3 x4 x5 x6 x7 x8 σ25)))))))
def F_Mod_transfer_178 (x1 : Int32) (x2 : Int32) (x3 : Int32) (x4 : Int32) (x5 : Int32) (x6 : Int32) (x7 : Int32) (s0 : Int32) (σ : ed_S) : Option (Int32 × ed_S) := (vG x5 8 fun j1 => vL (ed_st σ 31 0 j1 0) fun σ5 => (vG x5 8 fun j7 => vL (ed_st σ5 32 0 j7 0) fun σ11 => (vG x5 8 fun j13 => vL (ed_st σ11 33 0 j13 (σ11 44 0 0)) fun σ17 => (vG x5 8 fun j19 => vL (ed_st σ17 34 0 j19 x6) fun σ23 => (vG x5 8 fun j25 => vL (ed_st σ23 35 0 j25 x3) fun σ29 => (if x4 = (-1) then (F_Mod_transfer_246  x1 x2 x3 x4 x5 x6 x7 s0 (-1) x5 σ29) else (vB2 (F_Mod_objectOf x4 σ29) fun r34 σ32 => (F_Mod_transfer_246  x1 x2 x3 x4 x5 x6 x7 s0 r34 x5 σ32))))))))
def F_Mod_transfer_132 : Nat → Int32 → Int32 → Int32 → Int32 → Int32 → Int32 → Int32 → ed_S → Option (Int32 × ed_S)
  | 0, _, _, _, _, _, _, _, _ => none
  | n + 1, x1, x2, x3, x4, x5, x6, x7, σ => (if 8 ≤ x5 then (if x5 = 8 then (some ((-2), σ)) else (if (x7 &&& 2) = 2 then (F_Mod_transfer_178  x1 x2 x3 x4 x5 x6 x7 1 σ) else (F_Mod_transfer_178  x1 x2 x3 x4 x5 x6 x7 0 σ))) else (vG x5 8 fun j4 => (if (σ 31 0 j4) = 0 then ((F_Mod_transfer_132  n) x1 x2 x3 x4 (x5 + 1) x6 x7 σ) else (if x5 = 8 then (some ((-2), σ)) else (if (x7 &&& 2) = 2 then (F_Mod_transfer_178  x1 x2 x3 x4 x5 x6 x7 1 σ) else (F_Mod_transfer_178  x1 x2 x3 x4 x5 x6 x7 0 σ))))))
def F_Mod_transfer_85 (x1 : Int32) (x2 : Int32) (x3 : Int32) (x4 : Int32) (σ : ed_S) : Option (Int32 × ed_S) := (vB2 (F_Mod_lacks x1 1 σ) fun r3 σ1 => (if r3 = 0 then (if x4 = (-1) then (vB2 (F_Mod_objectOf x1 σ1) fun r8 σ6 => (vG r8 16 fun j9 => (F_Mod_transfer_132  ed_fu x1 x2 x3 x4 0 r8 (σ6 24 0 j9) σ6))) else (vB2 (F_Mod_lacks x4 2 σ1) fun r15 σ13 => (if r15 = 0 then (vB2 (F_Mod_objectOf x1 σ13) fun r19 σ17 => (vG r19 16 fun j20 => (F_Mod_transfer_132  ed_fu x1 x2 x3 x4 0 r19 (σ17 24 0 j20) σ17))) else (some ((-5), σ13))))) else (some ((-5), σ1))))
def F_Mod_transfer (x1 : Int32) (x2 : Int32) (x3 : Int32) (x4 : Int32) (σ : ed_S) : Option (Int32 × ed_S) := (if 0 ≤ (σ 44 0 0) then (vB2 (F_Mod_isHandle x1 σ) fun r4 σ2 => (if r4 = 0 then (some ((-1), σ2)) else (vB2 (F_Mod_objectOf x1 σ2) fun r8 σ6 => (vG r8 16 fun j9 => (if (σ6 22 0 j9) = 5 then (vB2 (F_Mod_is x2 0 255 σ6) fun r16 σ14 => (if r16 = 0 then (some ((-1), σ14)) else (vB2 (F_Mod_is x3 1 99 σ14) fun r20 σ18 => (if r20 = 0 then (some ((-1), σ18)) else (if x4 = (-1) then (F_Mod_transfer_85  x1 x2 x3 x4 σ18) else (vB2 (F_Mod_isHandle x4 σ18) fun r25 σ23 => (if r25 = 0 then (some ((-1), σ23)) else (vB2 (F_Mod_objectOf x4 σ23) fun r29 σ27 => (vG r29 16 fun j30 => (if (σ27 22 0 j30) ≤ 1 then (F_Mod_transfer_85  x1 x2 x3 x4 σ27) else (some ((-1), σ27)))))))))))) else (some ((-1), σ6))))))) else (some ((-3), σ)))
set_option maxHeartbeats 4000000 in
set_option maxRecDepth 100000 in
theorem T_Mod_transfer_329 {r : Int32} {σ' : ed_S} (B : ed_B p s m args meth c prog_10_method_40_code "ExecutiveDeskModel" 9 D ca) (hr : meth.sig.returnType = (some .int)) (hA : ∀ q : Nat, s.heap.size ≤ q → A q) : ∀ (x1 : Int32) (x2 : Int32) (x3 : Int32) (x4 : Int32) (x5 : Int32) (x6 : Int32) (x7 : Int32) (x8 : Int32) (σ : ed_S), F_Mod_transfer_329  x1 x2 x3 x4 x5 x6 x7 x8 σ = some (r, σ') → ed_G p l e rm_Mod_transfer s m args below meth c D ca (md_w ad ca) A (ed_QI D ca (md_w ad ca) A below args s r σ') 9 329 [(0, .ref (ad (pMod 0))), (1, .int x1), (2, .int x2), (3, .int x3), (4, .int x4), (5, .int x5), (6, .int x6), (7, .int x7), (8, .int x8)] [] σ := by
  have hx := B.1
  have hb := B.2.1
  intro x1 x2 x3 x4 x5 x6 x7 x8 σ  hF H locs ls hP hD hS hl
  have hF : (if x8 = 0 then (vB2 (F_Mod_end x5 σ) fun r4 σ2 => (some (r4, σ2))) else (if x3 ≤ (128 - x2) then (vB2 (F_Mod_end x5 σ) fun r8 σ6 => (some (r8, σ6))) else (vG x5 8 fun j9 => vL (ed_st σ 35 0 j9 (128 - x2)) fun σ13 => (vB2 (F_Mod_end x5 σ13) fun r17 σ15 => (some (r17, σ15)))))) = some (r, σ') := hF
  refine lv_iload hx hb d_Mod_transfer_329 (lv_at hl 8 rfl) ?_
  refine lv_if_eq (tgt := 355) hx hb d_Mod_transfer_331 (by decide) (fun c1 => ?_) (fun c1 => ?_)
  · have hF := vIt c1 hF
    refine lv_aload_n hx hb d_Mod_transfer_355 rfl (lv_at hl 0 rfl) ?_
    refine lv_iload hx hb d_Mod_transfer_356 (lv_at hl 5 rfl) ?_
    obtain ⟨r4, σ2, q3, hF⟩ := vB2_some hF
    refine ed_cvI (As := [.int x5]) (rest := []) B hP hD hS hA (C_Mod_end l D ad ca x5 σ r4 σ2  q3) me_Mod_end mv_Mod_end L_Mod_168 (ed_rc_Mod B hP (by decide)) ⟨rfl, rfl⟩ ⟨Nat.le_of_ble_eq_true rfl, Nat.le_of_ble_eq_true rfl⟩ rfl rfl hl.1 (lv_room (Nat.le_of_ble_eq_true rfl)) d_Mod_transfer_358 (fun H locs hP hD hS => ?_)
    exact ed_rI B hr hA hP hD hS (vP hF) d_Mod_transfer_361
  · have hF := vIf c1 hF
    refine lv_iload_n hx hb d_Mod_transfer_334 rfl (lv_at hl 3 rfl) ?_
    refine lv_sipush (v := 128) hx hb d_Mod_transfer_335 (by decide) ?_
    refine lv_iload_n hx hb d_Mod_transfer_338 rfl (lv_at hl 2 rfl) ?_
    refine lv_isub hx hb d_Mod_transfer_339 ?_
    refine lv_icmp_le (tgt := 355) hx hb d_Mod_transfer_340 (by decide) (fun c5 => ?_) (fun c5 => ?_)
    · have hF := vIt c5 hF
      refine lv_aload_n hx hb d_Mod_transfer_355 rfl (lv_at hl 0 rfl) ?_
      refine lv_iload hx hb d_Mod_transfer_356 (lv_at hl 5 rfl) ?_
      obtain ⟨r8, σ6, q7, hF⟩ := vB2_some hF
      refine ed_cvI (As := [.int x5]) (rest := []) B hP hD hS hA (C_Mod_end l D ad ca x5 σ r8 σ6  q7) me_Mod_end mv_Mod_end L_Mod_168 (ed_rc_Mod B hP (by decide)) ⟨rfl, rfl⟩ ⟨Nat.le_of_ble_eq_true rfl, Nat.le_of_ble_eq_true rfl⟩ rfl rfl hl.1 (lv_room (Nat.le_of_ble_eq_true rfl)) d_Mod_transfer_358 (fun H locs hP hD hS => ?_)
      exact ed_rI B hr hA hP hD hS (vP hF) d_Mod_transfer_361
    · have hF := vIf c5 hF
      refine lv_aload_n hx hb d_Mod_transfer_343 rfl (lv_at hl 0 rfl) ?_
      refine gf_Mod_tLength B hP (by decide) L_Mod_116 d_Mod_transfer_344 ?_
      refine lv_iload hx hb d_Mod_transfer_347 (lv_at hl 5 rfl) ?_
      refine lv_sipush (v := 128) hx hb d_Mod_transfer_349 (by decide) ?_
      refine lv_iload_n hx hb d_Mod_transfer_352 rfl (lv_at hl 2 rfl) ?_
      refine lv_isub hx hb d_Mod_transfer_353 ?_
      obtain ⟨j9, ej10, hj11, hn12, hF⟩ := vG_some hF
      obtain ⟨σ13, e14, hF⟩ := vL_some hF
      refine is_MtLength B hP hD hS (by decide) hn12 ej10 e14 d_Mod_transfer_354 (fun H locs hP hD hS => ?_)
      refine lv_aload_n hx hb d_Mod_transfer_355 rfl (lv_at hl 0 rfl) ?_
      refine lv_iload hx hb d_Mod_transfer_356 (lv_at hl 5 rfl) ?_
      obtain ⟨r17, σ15, q16, hF⟩ := vB2_some hF
      refine ed_cvI (As := [.int x5]) (rest := []) B hP hD hS hA (C_Mod_end l D ad ca x5 σ13 r17 σ15  q16) me_Mod_end mv_Mod_end L_Mod_168 (ed_rc_Mod B hP (by decide)) ⟨rfl, rfl⟩ ⟨Nat.le_of_ble_eq_true rfl, Nat.le_of_ble_eq_true rfl⟩ rfl rfl hl.1 (lv_room (Nat.le_of_ble_eq_true rfl)) d_Mod_transfer_358 (fun H locs hP hD hS => ?_)
      exact ed_rI B hr hA hP hD hS (vP hF) d_Mod_transfer_361
set_option maxHeartbeats 4000000 in
set_option maxRecDepth 100000 in
theorem T_Mod_transfer_306 {r : Int32} {σ' : ed_S} (B : ed_B p s m args meth c prog_10_method_40_code "ExecutiveDeskModel" 9 D ca) (hr : meth.sig.returnType = (some .int)) (hA : ∀ q : Nat, s.heap.size ≤ q → A q) : ∀ (x1 : Int32) (x2 : Int32) (x3 : Int32) (x4 : Int32) (x5 : Int32) (x6 : Int32) (x7 : Int32) (x8 : Int32) (σ : ed_S), F_Mod_transfer_306  x1 x2 x3 x4 x5 x6 x7 x8 σ = some (r, σ') → ed_G p l e rm_Mod_transfer s m args below meth c D ca (md_w ad ca) A (ed_QI D ca (md_w ad ca) A below args s r σ') 9 306 [(0, .ref (ad (pMod 0))), (1, .int x1), (2, .int x2), (3, .int x3), (4, .int x4), (5, .int x5), (6, .int x6), (7, .int x7), (8, .int x8)] [] σ := by
  have hx := B.1
  have hb := B.2.1
  intro x1 x2 x3 x4 x5 x6 x7 x8 σ  hF H locs ls hP hD hS hl
  have hF : (if x8 = 0 then (F_Mod_transfer_329  x1 x2 x3 x4 x5 x6 x7 x8 σ) else (if x2 < 128 then (F_Mod_transfer_329  x1 x2 x3 x4 x5 x6 x7 x8 σ) else (vB1 (F_Mod_over x5 3 0 σ) fun σ3 => (vB2 (F_Mod_end x5 σ3) fun r7 σ5 => (some (r7, σ5)))))) = some (r, σ') := hF
  refine lv_iload hx hb d_Mod_transfer_306 (lv_at hl 8 rfl) ?_
  refine lv_if_eq (tgt := 329) hx hb d_Mod_transfer_308 (by decide) (fun c1 => ?_) (fun c1 => ?_)
  · have hF := vIt c1 hF
    exact T_Mod_transfer_329 B hr hA  x1 x2 x3 x4 x5 x6 x7 x8 σ  hF _ _ _ hP hD hS (lv_sub hl [0, 1, 2, 3, 4, 5, 6, 7, 8] rfl)
  · have hF := vIf c1 hF
    refine lv_iload_n hx hb d_Mod_transfer_311 rfl (lv_at hl 2 rfl) ?_
    refine lv_sipush (v := 128) hx hb d_Mod_transfer_312 (by decide) ?_
    refine lv_icmp_lt (tgt := 329) hx hb d_Mod_transfer_315 (by decide) (fun c2 => ?_) (fun c2 => ?_)
    · have hF := vIt c2 hF
      exact T_Mod_transfer_329 B hr hA  x1 x2 x3 x4 x5 x6 x7 x8 σ  hF _ _ _ hP hD hS (lv_sub hl [0, 1, 2, 3, 4, 5, 6, 7, 8] rfl)
    · have hF := vIf c2 hF
      refine lv_aload_n hx hb d_Mod_transfer_318 rfl (lv_at hl 0 rfl) ?_
      refine lv_iload hx hb d_Mod_transfer_319 (lv_at hl 5 rfl) ?_
      refine lv_iconst (v := 3) hx hb d_Mod_transfer_321 (by decide) ?_
      refine lv_iconst (v := 0) hx hb d_Mod_transfer_322 (by decide) ?_
      obtain ⟨σ3, q4, hF⟩ := vB1_some hF
      refine ed_cvV (As := [.int x5, .int 3, .int 0]) (rest := []) B hP hD hS hA (C_Mod_over l D ad ca x5 3 0 σ σ3  q4) me_Mod_over mv_Mod_over L_Mod_259 (ed_rc_Mod B hP (by decide)) ⟨rfl, rfl⟩ ⟨Nat.le_of_ble_eq_true rfl, Nat.le_of_ble_eq_true rfl⟩ rfl rfl hl.1 (lv_room (Nat.le_of_ble_eq_true rfl)) d_Mod_transfer_323 (fun H locs hP hD hS => ?_)
      refine lv_goto (tgt := 355) hx hb d_Mod_transfer_326 (by decide) ?_
      refine lv_aload_n hx hb d_Mod_transfer_355 rfl (lv_at hl 0 rfl) ?_
      refine lv_iload hx hb d_Mod_transfer_356 (lv_at hl 5 rfl) ?_
      obtain ⟨r7, σ5, q6, hF⟩ := vB2_some hF
      refine ed_cvI (As := [.int x5]) (rest := []) B hP hD hS hA (C_Mod_end l D ad ca x5 σ3 r7 σ5  q6) me_Mod_end mv_Mod_end L_Mod_168 (ed_rc_Mod B hP (by decide)) ⟨rfl, rfl⟩ ⟨Nat.le_of_ble_eq_true rfl, Nat.le_of_ble_eq_true rfl⟩ rfl rfl hl.1 (lv_room (Nat.le_of_ble_eq_true rfl)) d_Mod_transfer_358 (fun H locs hP hD hS => ?_)
      exact ed_rI B hr hA hP hD hS (vP hF) d_Mod_transfer_361
set_option maxHeartbeats 4000000 in
set_option maxRecDepth 100000 in
theorem T_Mod_transfer_246 {r : Int32} {σ' : ed_S} (B : ed_B p s m args meth c prog_10_method_40_code "ExecutiveDeskModel" 9 D ca) (hr : meth.sig.returnType = (some .int)) (hA : ∀ q : Nat, s.heap.size ≤ q → A q) : ∀ (x1 : Int32) (x2 : Int32) (x3 : Int32) (x4 : Int32) (x5 : Int32) (x6 : Int32) (x7 : Int32) (x8 : Int32) (s0 : Int32) (s1 : Int32) (σ : ed_S), F_Mod_transfer_246  x1 x2 x3 x4 x5 x6 x7 x8 s0 s1 σ = some (r, σ') → ed_G p l e rm_Mod_transfer s m args below meth c D ca (md_w ad ca) A (ed_QI D ca (md_w ad ca) A below args s r σ') 9 246 [(0, .ref (ad (pMod 0))), (1, .int x1), (2, .int x2), (3, .int x3), (4, .int x4), (5, .int x5), (6, .int x6), (7, .int x7), (8, .int x8)] [.int s0, .int s1, .ref (ad (pMtSets 0))] σ := by
  have hx := B.1
  have hb := B.2.1
  intro x1 x2 x3 x4 x5 x6 x7 x8 s0 s1 σ  hF H locs ls hP hD hS hl
  have hF : (vG s1 8 fun j1 => vL (ed_st σ 36 0 j1 s0) fun σ5 => (vL (ed_st σ5 51 0 0 ((σ5 51 0 0) + 1)) fun σ7 => (vG x5 8 fun j9 => vL (ed_st σ7 37 0 j9 ((σ5 51 0 0) + 1)) fun σ13 => (vG x5 8 fun j15 => vL (ed_st σ13 38 0 j15 0) fun σ19 => (vG x5 8 fun j21 => vL (ed_st σ19 39 0 j21 0) fun σ25 => (if (x7 &&& 1) = 1 then (if x3 ≤ 64 then (F_Mod_transfer_306  x1 x2 x3 x4 x5 x6 x7 x8 σ25) else (vB1 (F_Mod_over x5 2 0 σ25) fun σ29 => (vB2 (F_Mod_end x5 σ29) fun r33 σ31 => (some (r33, σ31))))) else (F_Mod_transfer_306  x1 x2 x3 x4 x5 x6 x7 x8 σ25))))))) = some (r, σ') := hF
  obtain ⟨j1, ej2, hj3, hn4, hF⟩ := vG_some hF
  obtain ⟨σ5, e6, hF⟩ := vL_some hF
  refine is_MtSets B hP hD hS (by decide) hn4 ej2 e6 d_Mod_transfer_246 (fun H locs hP hD hS => ?_)
  refine lv_aload_n hx hb d_Mod_transfer_247 rfl (lv_at hl 0 rfl) ?_
  refine gf_Mod_tOrder B hP (by decide) L_Mod_122 d_Mod_transfer_248 ?_
  refine lv_iload hx hb d_Mod_transfer_251 (lv_at hl 5 rfl) ?_
  refine lv_aload_n hx hb d_Mod_transfer_253 rfl (lv_at hl 0 rfl) ?_
  refine lv_dup hx hb d_Mod_transfer_254 rfl ?_
  refine gf_Mod_orders B hP (by decide) L_Mod_171 d_Mod_transfer_255 ?_
  refine lv_iconst (v := 1) hx hb d_Mod_transfer_258 (by decide) ?_
  refine lv_iadd hx hb d_Mod_transfer_259 ?_
  refine lv_dup_x1 hx hb d_Mod_transfer_260 rfl rfl ?_
  obtain ⟨σ7, e8, hF⟩ := vL_some hF
  refine pf_Mod_orders B hP hD hS (by decide) e8 L_Mod_171 d_Mod_transfer_261 (fun H locs hP hD hS => ?_)
  obtain ⟨j9, ej10, hj11, hn12, hF⟩ := vG_some hF
  obtain ⟨σ13, e14, hF⟩ := vL_some hF
  refine is_MtOrder B hP hD hS (by decide) hn12 ej10 e14 d_Mod_transfer_264 (fun H locs hP hD hS => ?_)
  refine lv_aload_n hx hb d_Mod_transfer_265 rfl (lv_at hl 0 rfl) ?_
  refine gf_Mod_tCancel B hP (by decide) L_Mod_125 d_Mod_transfer_266 ?_
  refine lv_iload hx hb d_Mod_transfer_269 (lv_at hl 5 rfl) ?_
  refine lv_iconst (v := 0) hx hb d_Mod_transfer_271 (by decide) ?_
  obtain ⟨j15, ej16, hj17, hn18, hF⟩ := vG_some hF
  obtain ⟨σ19, e20, hF⟩ := vL_some hF
  refine is_MtCancel B hP hD hS (by decide) hn18 ej16 (by decide) e20 d_Mod_transfer_272 (fun H locs hP hD hS => ?_)
  refine lv_aload_n hx hb d_Mod_transfer_273 rfl (lv_at hl 0 rfl) ?_
  refine gf_Mod_tAgain B hP (by decide) L_Mod_128 d_Mod_transfer_274 ?_
  refine lv_iload hx hb d_Mod_transfer_277 (lv_at hl 5 rfl) ?_
  refine lv_iconst (v := 0) hx hb d_Mod_transfer_279 (by decide) ?_
  obtain ⟨j21, ej22, hj23, hn24, hF⟩ := vG_some hF
  obtain ⟨σ25, e26, hF⟩ := vL_some hF
  refine is_MtAgain B hP hD hS (by decide) hn24 ej22 (by decide) e26 d_Mod_transfer_280 (fun H locs hP hD hS => ?_)
  refine lv_iload hx hb d_Mod_transfer_281 (lv_at hl 7 rfl) ?_
  refine lv_iconst (v := 1) hx hb d_Mod_transfer_283 (by decide) ?_
  refine lv_iand hx hb d_Mod_transfer_284 ?_
  refine lv_iconst (v := 1) hx hb d_Mod_transfer_285 (by decide) ?_
  refine lv_icmp_ne (tgt := 306) hx hb d_Mod_transfer_286 (by decide) (fun c27 => ?_) (fun c27 => ?_)
  · have hF := vIf c27 hF
    exact T_Mod_transfer_306 B hr hA  x1 x2 x3 x4 x5 x6 x7 x8 σ25  hF _ _ _ hP hD hS (lv_sub hl [0, 1, 2, 3, 4, 5, 6, 7, 8] rfl)
  · have hF := vIt c27 hF
    refine lv_iload_n hx hb d_Mod_transfer_289 rfl (lv_at hl 3 rfl) ?_
    refine lv_bipush (v := 64) hx hb d_Mod_transfer_290 (by decide) ?_
    refine lv_icmp_le (tgt := 306) hx hb d_Mod_transfer_292 (by decide) (fun c28 => ?_) (fun c28 => ?_)
    · have hF := vIt c28 hF
      exact T_Mod_transfer_306 B hr hA  x1 x2 x3 x4 x5 x6 x7 x8 σ25  hF _ _ _ hP hD hS (lv_sub hl [0, 1, 2, 3, 4, 5, 6, 7, 8] rfl)
    · have hF := vIf c28 hF
      refine lv_aload_n hx hb d_Mod_transfer_295 rfl (lv_at hl 0 rfl) ?_
      refine lv_iload hx hb d_Mod_transfer_296 (lv_at hl 5 rfl) ?_
      refine lv_iconst (v := 2) hx hb d_Mod_transfer_298 (by decide) ?_
      refine lv_iconst (v := 0) hx hb d_Mod_transfer_299 (by decide) ?_
      obtain ⟨σ29, q30, hF⟩ := vB1_some hF
      refine ed_cvV (As := [.int x5, .int 2, .int 0]) (rest := []) B hP hD hS hA (C_Mod_over l D ad ca x5 2 0 σ25 σ29  q30) me_Mod_over mv_Mod_over L_Mod_259 (ed_rc_Mod B hP (by decide)) ⟨rfl, rfl⟩ ⟨Nat.le_of_ble_eq_true rfl, Nat.le_of_ble_eq_true rfl⟩ rfl rfl hl.1 (lv_room (Nat.le_of_ble_eq_true rfl)) d_Mod_transfer_300 (fun H locs hP hD hS => ?_)
      refine lv_goto (tgt := 355) hx hb d_Mod_transfer_303 (by decide) ?_
      refine lv_aload_n hx hb d_Mod_transfer_355 rfl (lv_at hl 0 rfl) ?_
      refine lv_iload hx hb d_Mod_transfer_356 (lv_at hl 5 rfl) ?_
      obtain ⟨r33, σ31, q32, hF⟩ := vB2_some hF
      refine ed_cvI (As := [.int x5]) (rest := []) B hP hD hS hA (C_Mod_end l D ad ca x5 σ29 r33 σ31  q32) me_Mod_end mv_Mod_end L_Mod_168 (ed_rc_Mod B hP (by decide)) ⟨rfl, rfl⟩ ⟨Nat.le_of_ble_eq_true rfl, Nat.le_of_ble_eq_true rfl⟩ rfl rfl hl.1 (lv_room (Nat.le_of_ble_eq_true rfl)) d_Mod_transfer_358 (fun H locs hP hD hS => ?_)
      exact ed_rI B hr hA hP hD hS (vP hF) d_Mod_transfer_361
set_option maxHeartbeats 4000000 in
set_option maxRecDepth 100000 in
theorem T_Mod_transfer_178 {r : Int32} {σ' : ed_S} (B : ed_B p s m args meth c prog_10_method_40_code "ExecutiveDeskModel" 9 D ca) (hr : meth.sig.returnType = (some .int)) (hA : ∀ q : Nat, s.heap.size ≤ q → A q) : ∀ (x1 : Int32) (x2 : Int32) (x3 : Int32) (x4 : Int32) (x5 : Int32) (x6 : Int32) (x7 : Int32) (s0 : Int32) (σ : ed_S), F_Mod_transfer_178  x1 x2 x3 x4 x5 x6 x7 s0 σ = some (r, σ') → ed_G p l e rm_Mod_transfer s m args below meth c D ca (md_w ad ca) A (ed_QI D ca (md_w ad ca) A below args s r σ') 9 178 [(0, .ref (ad (pMod 0))), (1, .int x1), (2, .int x2), (3, .int x3), (4, .int x4), (5, .int x5), (6, .int x6), (7, .int x7)] [.int s0] σ := by
  have hx := B.1
  have hb := B.2.1
  intro x1 x2 x3 x4 x5 x6 x7 s0 σ  hF H locs ls hP hD hS hl
  have hF : (vG x5 8 fun j1 => vL (ed_st σ 31 0 j1 0) fun σ5 => (vG x5 8 fun j7 => vL (ed_st σ5 32 0 j7 0) fun σ11 => (vG x5 8 fun j13 => vL (ed_st σ11 33 0 j13 (σ11 44 0 0)) fun σ17 => (vG x5 8 fun j19 => vL (ed_st σ17 34 0 j19 x6) fun σ23 => (vG x5 8 fun j25 => vL (ed_st σ23 35 0 j25 x3) fun σ29 => (if x4 = (-1) then (F_Mod_transfer_246  x1 x2 x3 x4 x5 x6 x7 s0 (-1) x5 σ29) else (vB2 (F_Mod_objectOf x4 σ29) fun r34 σ32 => (F_Mod_transfer_246  x1 x2 x3 x4 x5 x6 x7 s0 r34 x5 σ32)))))))) = some (r, σ') := hF
  refine lv_istore (lv' := [(8, .int s0), (0, .ref (ad (pMod 0))), (1, .int x1), (2, .int x2), (3, .int x3), (4, .int x4), (5, .int x5), (6, .int x6), (7, .int x7)]) hx hb d_Mod_transfer_178 hl (by decide) rfl (fun ls hl => ?_)
  refine lv_aload_n hx hb d_Mod_transfer_180 rfl (lv_at hl 1 rfl) ?_
  refine gf_Mod_tState B hP (by decide) L_Mod_104 d_Mod_transfer_181 ?_
  refine lv_iload hx hb d_Mod_transfer_184 (lv_at hl 6 rfl) ?_
  refine lv_iconst (v := 0) hx hb d_Mod_transfer_186 (by decide) ?_
  obtain ⟨j1, ej2, hj3, hn4, hF⟩ := vG_some hF
  obtain ⟨σ5, e6, hF⟩ := vL_some hF
  refine is_MtState B hP hD hS (by decide) hn4 ej2 e6 d_Mod_transfer_187 (fun H locs hP hD hS => ?_)
  refine lv_aload_n hx hb d_Mod_transfer_188 rfl (lv_at hl 1 rfl) ?_
  refine gf_Mod_tAmount B hP (by decide) L_Mod_107 d_Mod_transfer_189 ?_
  refine lv_iload hx hb d_Mod_transfer_192 (lv_at hl 6 rfl) ?_
  refine lv_iconst (v := 0) hx hb d_Mod_transfer_194 (by decide) ?_
  obtain ⟨j7, ej8, hj9, hn10, hF⟩ := vG_some hF
  obtain ⟨σ11, e12, hF⟩ := vL_some hF
  refine is_MtAmount B hP hD hS (by decide) hn10 ej8 e12 d_Mod_transfer_195 (fun H locs hP hD hS => ?_)
  refine lv_aload_n hx hb d_Mod_transfer_196 rfl (lv_at hl 1 rfl) ?_
  refine gf_Mod_tThread B hP (by decide) L_Mod_110 d_Mod_transfer_197 ?_
  refine lv_iload hx hb d_Mod_transfer_200 (lv_at hl 6 rfl) ?_
  refine lv_aload_n hx hb d_Mod_transfer_202 rfl (lv_at hl 1 rfl) ?_
  refine gf_Mod_running B hP (by decide) L_Mod_137 d_Mod_transfer_203 ?_
  obtain ⟨j13, ej14, hj15, hn16, hF⟩ := vG_some hF
  obtain ⟨σ17, e18, hF⟩ := vL_some hF
  refine is_MtThread B hP hD hS (by decide) hn16 ej14 e18 d_Mod_transfer_206 (fun H locs hP hD hS => ?_)
  refine lv_aload_n hx hb d_Mod_transfer_207 rfl (lv_at hl 1 rfl) ?_
  refine gf_Mod_tDevice B hP (by decide) L_Mod_113 d_Mod_transfer_208 ?_
  refine lv_iload hx hb d_Mod_transfer_211 (lv_at hl 6 rfl) ?_
  refine lv_iload hx hb d_Mod_transfer_213 (lv_at hl 7 rfl) ?_
  obtain ⟨j19, ej20, hj21, hn22, hF⟩ := vG_some hF
  obtain ⟨σ23, e24, hF⟩ := vL_some hF
  refine is_MtDevice B hP hD hS (by decide) hn22 ej20 e24 d_Mod_transfer_215 (fun H locs hP hD hS => ?_)
  refine lv_aload_n hx hb d_Mod_transfer_216 rfl (lv_at hl 1 rfl) ?_
  refine gf_Mod_tLength B hP (by decide) L_Mod_116 d_Mod_transfer_217 ?_
  refine lv_iload hx hb d_Mod_transfer_220 (lv_at hl 6 rfl) ?_
  refine lv_iload_n hx hb d_Mod_transfer_222 rfl (lv_at hl 4 rfl) ?_
  obtain ⟨j25, ej26, hj27, hn28, hF⟩ := vG_some hF
  obtain ⟨σ29, e30, hF⟩ := vL_some hF
  refine is_MtLength B hP hD hS (by decide) hn28 ej26 e30 d_Mod_transfer_223 (fun H locs hP hD hS => ?_)
  refine lv_aload_n hx hb d_Mod_transfer_224 rfl (lv_at hl 1 rfl) ?_
  refine gf_Mod_tSets B hP (by decide) L_Mod_119 d_Mod_transfer_225 ?_
  refine lv_iload hx hb d_Mod_transfer_228 (lv_at hl 6 rfl) ?_
  refine lv_iload hx hb d_Mod_transfer_230 (lv_at hl 5 rfl) ?_
  refine lv_iconst (v := (-1)) hx hb d_Mod_transfer_232 (by decide) ?_
  refine lv_icmp_ne (tgt := 240) hx hb d_Mod_transfer_233 (by decide) (fun c31 => ?_) (fun c31 => ?_)
  · have hF := vIf c31 hF
    refine lv_aload_n hx hb d_Mod_transfer_240 rfl (lv_at hl 1 rfl) ?_
    refine lv_iload hx hb d_Mod_transfer_241 (lv_at hl 5 rfl) ?_
    obtain ⟨r34, σ32, q33, hF⟩ := vB2_some hF
    refine ed_cvI (As := [.int x4]) (rest := [.int x5, .ref (ad (pMtSets 0))]) B hP hD hS hA (C_Mod_objectOf l D ad ca x4 σ29 r34 σ32  q33) me_Mod_objectOf mv_Mod_objectOf L_Mod_224 (ed_rc_Mod B hP (by decide)) ⟨rfl, rfl⟩ ⟨Nat.le_of_ble_eq_true rfl, Nat.le_of_ble_eq_true rfl⟩ rfl rfl hl.1 (lv_room (Nat.le_of_ble_eq_true rfl)) d_Mod_transfer_243 (fun H locs hP hD hS => ?_)
    exact T_Mod_transfer_246 B hr hA  x1 x2 x3 x4 x5 x6 x7 s0 r34 x5 σ32  hF _ _ _ hP hD hS (lv_sub hl [1, 2, 3, 4, 5, 6, 7, 8, 0] rfl)
  · have hF := vIt c31 hF
    refine lv_iconst (v := (-1)) hx hb d_Mod_transfer_236 (by decide) ?_
    refine lv_goto (tgt := 246) hx hb d_Mod_transfer_237 (by decide) ?_
    exact T_Mod_transfer_246 B hr hA  x1 x2 x3 x4 x5 x6 x7 s0 (-1) x5 σ29  hF _ _ _ hP hD hS (lv_sub hl [1, 2, 3, 4, 5, 6, 7, 8, 0] rfl)
set_option maxHeartbeats 4000000 in
set_option maxRecDepth 100000 in
theorem T_Mod_transfer_132 {r : Int32} {σ' : ed_S} (B : ed_B p s m args meth c prog_10_method_40_code "ExecutiveDeskModel" 9 D ca) (hr : meth.sig.returnType = (some .int)) (hA : ∀ q : Nat, s.heap.size ≤ q → A q) : ∀ (n : Nat) (x1 : Int32) (x2 : Int32) (x3 : Int32) (x4 : Int32) (x5 : Int32) (x6 : Int32) (x7 : Int32) (σ : ed_S), F_Mod_transfer_132  n x1 x2 x3 x4 x5 x6 x7 σ = some (r, σ') → ed_G p l e rm_Mod_transfer s m args below meth c D ca (md_w ad ca) A (ed_QI D ca (md_w ad ca) A below args s r σ') 9 132 [(0, .ref (ad (pMod 0))), (1, .int x1), (2, .int x2), (3, .int x3), (4, .int x4), (5, .int x5), (6, .int x6), (7, .int x7)] [] σ := by
  have hx := B.1
  have hb := B.2.1
  intro n
  induction n with
  | zero => intro x1 x2 x3 x4 x5 x6 x7 σ  hF; exact absurd hF (by intro h; cases h)
  | succ n kk132 =>
    intro x1 x2 x3 x4 x5 x6 x7 σ  hF H locs ls hP hD hS hl
    have hF : (if 8 ≤ x5 then (if x5 = 8 then (some ((-2), σ)) else (if (x7 &&& 2) = 2 then (F_Mod_transfer_178  x1 x2 x3 x4 x5 x6 x7 1 σ) else (F_Mod_transfer_178  x1 x2 x3 x4 x5 x6 x7 0 σ))) else (vG x5 8 fun j4 => (if (σ 31 0 j4) = 0 then ((F_Mod_transfer_132  n) x1 x2 x3 x4 (x5 + 1) x6 x7 σ) else (if x5 = 8 then (some ((-2), σ)) else (if (x7 &&& 2) = 2 then (F_Mod_transfer_178  x1 x2 x3 x4 x5 x6 x7 1 σ) else (F_Mod_transfer_178  x1 x2 x3 x4 x5 x6 x7 0 σ)))))) = some (r, σ') := hF
    refine lv_iload hx hb d_Mod_transfer_132 (lv_at hl 5 rfl) ?_
    refine lv_bipush (v := 8) hx hb d_Mod_transfer_134 (by decide) ?_
    refine lv_icmp_ge (tgt := 155) hx hb d_Mod_transfer_136 (by decide) (fun c1 => ?_) (fun c1 => ?_)
    · have hF := vIt c1 hF
      refine lv_iload hx hb d_Mod_transfer_155 (lv_at hl 5 rfl) ?_
      refine lv_bipush (v := 8) hx hb d_Mod_transfer_157 (by decide) ?_
      refine lv_icmp_ne (tgt := 165) hx hb d_Mod_transfer_159 (by decide) (fun c2 => ?_) (fun c2 => ?_)
      · have hF := vIf c2 hF
        refine lv_iload hx hb d_Mod_transfer_165 (lv_at hl 7 rfl) ?_
        refine lv_iconst (v := 2) hx hb d_Mod_transfer_167 (by decide) ?_
        refine lv_iand hx hb d_Mod_transfer_168 ?_
        refine lv_iconst (v := 2) hx hb d_Mod_transfer_169 (by decide) ?_
        refine lv_icmp_ne (tgt := 177) hx hb d_Mod_transfer_170 (by decide) (fun c3 => ?_) (fun c3 => ?_)
        · have hF := vIf c3 hF
          refine lv_iconst (v := 0) hx hb d_Mod_transfer_177 (by decide) ?_
          exact T_Mod_transfer_178 B hr hA  x1 x2 x3 x4 x5 x6 x7 0 σ  hF _ _ _ hP hD hS (lv_sub hl [0, 1, 2, 3, 4, 5, 6, 7] rfl)
        · have hF := vIt c3 hF
          refine lv_iconst (v := 1) hx hb d_Mod_transfer_173 (by decide) ?_
          refine lv_goto (tgt := 178) hx hb d_Mod_transfer_174 (by decide) ?_
          exact T_Mod_transfer_178 B hr hA  x1 x2 x3 x4 x5 x6 x7 1 σ  hF _ _ _ hP hD hS (lv_sub hl [0, 1, 2, 3, 4, 5, 6, 7] rfl)
      · have hF := vIt c2 hF
        refine lv_bipush (v := (-2)) hx hb d_Mod_transfer_162 (by decide) ?_
        exact ed_rI B hr hA hP hD hS (vP hF) d_Mod_transfer_164
    · have hF := vIf c1 hF
      refine lv_aload_n hx hb d_Mod_transfer_139 rfl (lv_at hl 0 rfl) ?_
      refine gf_Mod_tState B hP (by decide) L_Mod_104 d_Mod_transfer_140 ?_
      refine lv_iload hx hb d_Mod_transfer_143 (lv_at hl 5 rfl) ?_
      obtain ⟨j4, ej5, hj6, hn7, hF⟩ := vG_some hF
      refine il_MtState B hP (by decide) hn7 ej5 d_Mod_transfer_145 ?_
      refine lv_if_ne (tgt := 155) hx hb d_Mod_transfer_146 (by decide) (fun c8 => ?_) (fun c8 => ?_)
      · have hF := vIf c8 hF
        refine lv_iload hx hb d_Mod_transfer_155 (lv_at hl 5 rfl) ?_
        refine lv_bipush (v := 8) hx hb d_Mod_transfer_157 (by decide) ?_
        refine lv_icmp_ne (tgt := 165) hx hb d_Mod_transfer_159 (by decide) (fun c9 => ?_) (fun c9 => ?_)
        · have hF := vIf c9 hF
          refine lv_iload hx hb d_Mod_transfer_165 (lv_at hl 7 rfl) ?_
          refine lv_iconst (v := 2) hx hb d_Mod_transfer_167 (by decide) ?_
          refine lv_iand hx hb d_Mod_transfer_168 ?_
          refine lv_iconst (v := 2) hx hb d_Mod_transfer_169 (by decide) ?_
          refine lv_icmp_ne (tgt := 177) hx hb d_Mod_transfer_170 (by decide) (fun c10 => ?_) (fun c10 => ?_)
          · have hF := vIf c10 hF
            refine lv_iconst (v := 0) hx hb d_Mod_transfer_177 (by decide) ?_
            exact T_Mod_transfer_178 B hr hA  x1 x2 x3 x4 x5 x6 x7 0 σ  hF _ _ _ hP hD hS (lv_sub hl [0, 1, 2, 3, 4, 5, 6, 7] rfl)
          · have hF := vIt c10 hF
            refine lv_iconst (v := 1) hx hb d_Mod_transfer_173 (by decide) ?_
            refine lv_goto (tgt := 178) hx hb d_Mod_transfer_174 (by decide) ?_
            exact T_Mod_transfer_178 B hr hA  x1 x2 x3 x4 x5 x6 x7 1 σ  hF _ _ _ hP hD hS (lv_sub hl [0, 1, 2, 3, 4, 5, 6, 7] rfl)
        · have hF := vIt c9 hF
          refine lv_bipush (v := (-2)) hx hb d_Mod_transfer_162 (by decide) ?_
          exact ed_rI B hr hA hP hD hS (vP hF) d_Mod_transfer_164
      · have hF := vIt c8 hF
        refine lv_iinc (v := (x5 + 1)) (lv' := [(5, .int (x5 + 1)), (0, .ref (ad (pMod 0))), (1, .int x1), (2, .int x2), (3, .int x3), (4, .int x4), (6, .int x6), (7, .int x7)]) hx hb d_Mod_transfer_149 hl (k := 5) rfl rfl (by decide) rfl (fun ls hl => ?_)
        refine lv_goto (tgt := 132) hx hb d_Mod_transfer_152 (by decide) ?_
        exact kk132 x1 x2 x3 x4 (x5 + 1) x6 x7 σ  hF _ _ _ hP hD hS (lv_sub hl [1, 2, 3, 4, 5, 0, 6, 7] rfl)
set_option maxHeartbeats 4000000 in
set_option maxRecDepth 100000 in
theorem T_Mod_transfer_85 {r : Int32} {σ' : ed_S} (B : ed_B p s m args meth c prog_10_method_40_code "ExecutiveDeskModel" 9 D ca) (hr : meth.sig.returnType = (some .int)) (hA : ∀ q : Nat, s.heap.size ≤ q → A q) : ∀ (x1 : Int32) (x2 : Int32) (x3 : Int32) (x4 : Int32) (σ : ed_S), F_Mod_transfer_85  x1 x2 x3 x4 σ = some (r, σ') → ed_G p l e rm_Mod_transfer s m args below meth c D ca (md_w ad ca) A (ed_QI D ca (md_w ad ca) A below args s r σ') 9 85 [(0, .ref (ad (pMod 0))), (1, .int x1), (2, .int x2), (3, .int x3), (4, .int x4)] [] σ := by
  have hx := B.1
  have hb := B.2.1
  intro x1 x2 x3 x4 σ  hF H locs ls hP hD hS hl
  have hF : (vB2 (F_Mod_lacks x1 1 σ) fun r3 σ1 => (if r3 = 0 then (if x4 = (-1) then (vB2 (F_Mod_objectOf x1 σ1) fun r8 σ6 => (vG r8 16 fun j9 => (F_Mod_transfer_132  ed_fu x1 x2 x3 x4 0 r8 (σ6 24 0 j9) σ6))) else (vB2 (F_Mod_lacks x4 2 σ1) fun r15 σ13 => (if r15 = 0 then (vB2 (F_Mod_objectOf x1 σ13) fun r19 σ17 => (vG r19 16 fun j20 => (F_Mod_transfer_132  ed_fu x1 x2 x3 x4 0 r19 (σ17 24 0 j20) σ17))) else (some ((-5), σ13))))) else (some ((-5), σ1)))) = some (r, σ') := hF
  refine lv_aload_n hx hb d_Mod_transfer_85 rfl (lv_at hl 0 rfl) ?_
  refine lv_iload_n hx hb d_Mod_transfer_86 rfl (lv_at hl 1 rfl) ?_
  refine lv_iconst (v := 1) hx hb d_Mod_transfer_87 (by decide) ?_
  obtain ⟨r3, σ1, q2, hF⟩ := vB2_some hF
  refine ed_cvI (As := [.int x1, .int 1]) (rest := []) B hP hD hS hA (C_Mod_lacks l D ad ca x1 1 σ r3 σ1  q2) me_Mod_lacks mv_Mod_lacks L_Mod_227 (ed_rc_Mod B hP (by decide)) ⟨rfl, rfl⟩ ⟨Nat.le_of_ble_eq_true rfl, Nat.le_of_ble_eq_true rfl⟩ rfl rfl hl.1 (lv_room (Nat.le_of_ble_eq_true rfl)) d_Mod_transfer_88 (fun H locs hP hD hS => ?_)
  refine lv_if_ne (tgt := 110) hx hb d_Mod_transfer_91 (by decide) (fun c4 => ?_) (fun c4 => ?_)
  · have hF := vIf c4 hF
    refine lv_bipush (v := (-5)) hx hb d_Mod_transfer_110 (by decide) ?_
    exact ed_rI B hr hA hP hD hS (vP hF) d_Mod_transfer_112
  · have hF := vIt c4 hF
    refine lv_iload hx hb d_Mod_transfer_94 (lv_at hl 4 rfl) ?_
    refine lv_iconst (v := (-1)) hx hb d_Mod_transfer_96 (by decide) ?_
    refine lv_icmp_eq (tgt := 113) hx hb d_Mod_transfer_97 (by decide) (fun c5 => ?_) (fun c5 => ?_)
    · have hF := vIt c5 hF
      refine lv_iconst (v := 0) hx hb d_Mod_transfer_113 (by decide) ?_
      refine lv_istore (lv' := [(5, .int 0), (0, .ref (ad (pMod 0))), (1, .int x1), (2, .int x2), (3, .int x3), (4, .int x4)]) hx hb d_Mod_transfer_114 hl (by decide) rfl (fun ls hl => ?_)
      refine lv_aload_n hx hb d_Mod_transfer_116 rfl (lv_at hl 1 rfl) ?_
      refine lv_iload_n hx hb d_Mod_transfer_117 rfl (lv_at hl 2 rfl) ?_
      obtain ⟨r8, σ6, q7, hF⟩ := vB2_some hF
      refine ed_cvI (As := [.int x1]) (rest := []) B hP hD hS hA (C_Mod_objectOf l D ad ca x1 σ1 r8 σ6  q7) me_Mod_objectOf mv_Mod_objectOf L_Mod_224 (ed_rc_Mod B hP (by decide)) ⟨rfl, rfl⟩ ⟨Nat.le_of_ble_eq_true rfl, Nat.le_of_ble_eq_true rfl⟩ rfl rfl hl.1 (lv_room (Nat.le_of_ble_eq_true rfl)) d_Mod_transfer_118 (fun H locs hP hD hS => ?_)
      refine lv_istore (lv' := [(6, .int r8), (5, .int 0), (0, .ref (ad (pMod 0))), (1, .int x1), (2, .int x2), (3, .int x3), (4, .int x4)]) hx hb d_Mod_transfer_121 hl (by decide) rfl (fun ls hl => ?_)
      refine lv_aload_n hx hb d_Mod_transfer_123 rfl (lv_at hl 2 rfl) ?_
      refine gf_Mod_count B hP (by decide) L_Mod_83 d_Mod_transfer_124 ?_
      refine lv_iload hx hb d_Mod_transfer_127 (lv_at hl 0 rfl) ?_
      obtain ⟨j9, ej10, hj11, hn12, hF⟩ := vG_some hF
      refine il_Mcount B hP (by decide) hn12 ej10 d_Mod_transfer_129 ?_
      refine lv_istore (lv' := [(7, .int (σ6 24 0 j9)), (6, .int r8), (5, .int 0), (0, .ref (ad (pMod 0))), (1, .int x1), (2, .int x2), (3, .int x3), (4, .int x4)]) hx hb d_Mod_transfer_130 hl (by decide) rfl (fun ls hl => ?_)
      exact T_Mod_transfer_132 B hr hA  ed_fu x1 x2 x3 x4 0 r8 (σ6 24 0 j9) σ6  hF _ _ _ hP hD hS (lv_sub hl [3, 4, 5, 6, 7, 2, 1, 0] rfl)
    · have hF := vIf c5 hF
      refine lv_aload_n hx hb d_Mod_transfer_100 rfl (lv_at hl 0 rfl) ?_
      refine lv_iload hx hb d_Mod_transfer_101 (lv_at hl 4 rfl) ?_
      refine lv_iconst (v := 2) hx hb d_Mod_transfer_103 (by decide) ?_
      obtain ⟨r15, σ13, q14, hF⟩ := vB2_some hF
      refine ed_cvI (As := [.int x4, .int 2]) (rest := []) B hP hD hS hA (C_Mod_lacks l D ad ca x4 2 σ1 r15 σ13  q14) me_Mod_lacks mv_Mod_lacks L_Mod_227 (ed_rc_Mod B hP (by decide)) ⟨rfl, rfl⟩ ⟨Nat.le_of_ble_eq_true rfl, Nat.le_of_ble_eq_true rfl⟩ rfl rfl hl.1 (lv_room (Nat.le_of_ble_eq_true rfl)) d_Mod_transfer_104 (fun H locs hP hD hS => ?_)
      refine lv_if_eq (tgt := 113) hx hb d_Mod_transfer_107 (by decide) (fun c16 => ?_) (fun c16 => ?_)
      · have hF := vIt c16 hF
        refine lv_iconst (v := 0) hx hb d_Mod_transfer_113 (by decide) ?_
        refine lv_istore (lv' := [(5, .int 0), (0, .ref (ad (pMod 0))), (1, .int x1), (2, .int x2), (3, .int x3), (4, .int x4)]) hx hb d_Mod_transfer_114 hl (by decide) rfl (fun ls hl => ?_)
        refine lv_aload_n hx hb d_Mod_transfer_116 rfl (lv_at hl 1 rfl) ?_
        refine lv_iload_n hx hb d_Mod_transfer_117 rfl (lv_at hl 2 rfl) ?_
        obtain ⟨r19, σ17, q18, hF⟩ := vB2_some hF
        refine ed_cvI (As := [.int x1]) (rest := []) B hP hD hS hA (C_Mod_objectOf l D ad ca x1 σ13 r19 σ17  q18) me_Mod_objectOf mv_Mod_objectOf L_Mod_224 (ed_rc_Mod B hP (by decide)) ⟨rfl, rfl⟩ ⟨Nat.le_of_ble_eq_true rfl, Nat.le_of_ble_eq_true rfl⟩ rfl rfl hl.1 (lv_room (Nat.le_of_ble_eq_true rfl)) d_Mod_transfer_118 (fun H locs hP hD hS => ?_)
        refine lv_istore (lv' := [(6, .int r19), (5, .int 0), (0, .ref (ad (pMod 0))), (1, .int x1), (2, .int x2), (3, .int x3), (4, .int x4)]) hx hb d_Mod_transfer_121 hl (by decide) rfl (fun ls hl => ?_)
        refine lv_aload_n hx hb d_Mod_transfer_123 rfl (lv_at hl 2 rfl) ?_
        refine gf_Mod_count B hP (by decide) L_Mod_83 d_Mod_transfer_124 ?_
        refine lv_iload hx hb d_Mod_transfer_127 (lv_at hl 0 rfl) ?_
        obtain ⟨j20, ej21, hj22, hn23, hF⟩ := vG_some hF
        refine il_Mcount B hP (by decide) hn23 ej21 d_Mod_transfer_129 ?_
        refine lv_istore (lv' := [(7, .int (σ17 24 0 j20)), (6, .int r19), (5, .int 0), (0, .ref (ad (pMod 0))), (1, .int x1), (2, .int x2), (3, .int x3), (4, .int x4)]) hx hb d_Mod_transfer_130 hl (by decide) rfl (fun ls hl => ?_)
        exact T_Mod_transfer_132 B hr hA  ed_fu x1 x2 x3 x4 0 r19 (σ17 24 0 j20) σ17  hF _ _ _ hP hD hS (lv_sub hl [3, 4, 5, 6, 7, 2, 1, 0] rfl)
      · have hF := vIf c16 hF
        refine lv_bipush (v := (-5)) hx hb d_Mod_transfer_110 (by decide) ?_
        exact ed_rI B hr hA hP hD hS (vP hF) d_Mod_transfer_112
set_option maxHeartbeats 4000000 in
set_option maxRecDepth 100000 in
theorem T_Mod_transfer {r : Int32} {σ' : ed_S} (B : ed_B p s m args meth c prog_10_method_40_code "ExecutiveDeskModel" 9 D ca) (hr : meth.sig.returnType = (some .int)) (hA : ∀ q : Nat, s.heap.size ≤ q → A q) : ∀ (x1 : Int32) (x2 : Int32) (x3 : Int32) (x4 : Int32) (σ : ed_S), F_Mod_transfer  x1 x2 x3 x4 σ = some (r, σ') → ed_G p l e rm_Mod_transfer s m args below meth c D ca (md_w ad ca) A (ed_QI D ca (md_w ad ca) A below args s r σ') 9 0 [(0, .ref (ad (pMod 0))), (1, .int x1), (2, .int x2), (3, .int x3), (4, .int x4)] [] σ := by
  have hx := B.1
  have hb := B.2.1
  intro x1 x2 x3 x4 σ  hF H locs ls hP hD hS hl
  have hF : (if 0 ≤ (σ 44 0 0) then (vB2 (F_Mod_isHandle x1 σ) fun r4 σ2 => (if r4 = 0 then (some ((-1), σ2)) else (vB2 (F_Mod_objectOf x1 σ2) fun r8 σ6 => (vG r8 16 fun j9 => (if (σ6 22 0 j9) = 5 then (vB2 (F_Mod_is x2 0 255 σ6) fun r16 σ14 => (if r16 = 0 then (some ((-1), σ14)) else (vB2 (F_Mod_is x3 1 99 σ14) fun r20 σ18 => (if r20 = 0 then (some ((-1), σ18)) else (if x4 = (-1) then (F_Mod_transfer_85  x1 x2 x3 x4 σ18) else (vB2 (F_Mod_isHandle x4 σ18) fun r25 σ23 => (if r25 = 0 then (some ((-1), σ23)) else (vB2 (F_Mod_objectOf x4 σ23) fun r29 σ27 => (vG r29 16 fun j30 => (if (σ27 22 0 j30) ≤ 1 then (F_Mod_transfer_85  x1 x2 x3 x4 σ27) else (some ((-1), σ27)))))))))))) else (some ((-1), σ6))))))) else (some ((-3), σ))) = some (r, σ') := hF
  refine lv_aload_n hx hb d_Mod_transfer_0 rfl (lv_at hl 0 rfl) ?_
  refine gf_Mod_running B hP (by decide) L_Mod_137 d_Mod_transfer_1 ?_
  refine lv_if_ge (tgt := 10) hx hb d_Mod_transfer_4 (by decide) (fun c1 => ?_) (fun c1 => ?_)
  · have hF := vIt c1 hF
    refine lv_aload_n hx hb d_Mod_transfer_10 rfl (lv_at hl 0 rfl) ?_
    refine lv_iload_n hx hb d_Mod_transfer_11 rfl (lv_at hl 1 rfl) ?_
    obtain ⟨r4, σ2, q3, hF⟩ := vB2_some hF
    refine ed_cvI (As := [.int x1]) (rest := []) B hP hD hS hA (C_Mod_isHandle l D ad ca x1 σ r4 σ2  q3) me_Mod_isHandle mv_Mod_isHandle L_Mod_220 (ed_rc_Mod B hP (by decide)) ⟨rfl, rfl⟩ ⟨Nat.le_of_ble_eq_true rfl, Nat.le_of_ble_eq_true rfl⟩ rfl rfl hl.1 (lv_room (Nat.le_of_ble_eq_true rfl)) d_Mod_transfer_12 (fun H locs hP hD hS => ?_)
    refine lv_if_eq (tgt := 83) hx hb d_Mod_transfer_15 (by decide) (fun c5 => ?_) (fun c5 => ?_)
    · have hF := vIt c5 hF
      refine lv_iconst (v := (-1)) hx hb d_Mod_transfer_83 (by decide) ?_
      exact ed_rI B hr hA hP hD hS (vP hF) d_Mod_transfer_84
    · have hF := vIf c5 hF
      refine lv_aload_n hx hb d_Mod_transfer_18 rfl (lv_at hl 0 rfl) ?_
      refine gf_Mod_type B hP (by decide) L_Mod_77 d_Mod_transfer_19 ?_
      refine lv_aload_n hx hb d_Mod_transfer_22 rfl (lv_at hl 0 rfl) ?_
      refine lv_iload_n hx hb d_Mod_transfer_23 rfl (lv_at hl 1 rfl) ?_
      obtain ⟨r8, σ6, q7, hF⟩ := vB2_some hF
      refine ed_cvI (As := [.int x1]) (rest := [.ref (ad (pMtype 0))]) B hP hD hS hA (C_Mod_objectOf l D ad ca x1 σ2 r8 σ6  q7) me_Mod_objectOf mv_Mod_objectOf L_Mod_224 (ed_rc_Mod B hP (by decide)) ⟨rfl, rfl⟩ ⟨Nat.le_of_ble_eq_true rfl, Nat.le_of_ble_eq_true rfl⟩ rfl rfl hl.1 (lv_room (Nat.le_of_ble_eq_true rfl)) d_Mod_transfer_24 (fun H locs hP hD hS => ?_)
      obtain ⟨j9, ej10, hj11, hn12, hF⟩ := vG_some hF
      refine il_Mtype B hP (by decide) hn12 ej10 d_Mod_transfer_27 ?_
      refine lv_iconst (v := 5) hx hb d_Mod_transfer_28 (by decide) ?_
      refine lv_icmp_ne (tgt := 83) hx hb d_Mod_transfer_29 (by decide) (fun c13 => ?_) (fun c13 => ?_)
      · have hF := vIf c13 hF
        refine lv_iconst (v := (-1)) hx hb d_Mod_transfer_83 (by decide) ?_
        exact ed_rI B hr hA hP hD hS (vP hF) d_Mod_transfer_84
      · have hF := vIt c13 hF
        refine lv_iload_n hx hb d_Mod_transfer_32 rfl (lv_at hl 2 rfl) ?_
        refine lv_iconst (v := 0) hx hb d_Mod_transfer_33 (by decide) ?_
        refine lv_sipush (v := 255) hx hb d_Mod_transfer_34 (by decide) ?_
        obtain ⟨r16, σ14, q15, hF⟩ := vB2_some hF
        refine ed_csI (As := [.int x2, .int 0, .int 255]) (rest := []) B hP hD hS hA (C_Mod_is l D ad ca x2 0 255 σ6 r16 σ14  q15) me_Mod_is st_Mod_is L_Mod_157 ⟨rfl, rfl⟩ ⟨Nat.le_of_ble_eq_true rfl, Nat.le_of_ble_eq_true rfl⟩ rfl rfl hl.1 (lv_room (Nat.le_of_ble_eq_true rfl)) d_Mod_transfer_37 (fun H locs hP hD hS => ?_)
        refine lv_if_eq (tgt := 83) hx hb d_Mod_transfer_40 (by decide) (fun c17 => ?_) (fun c17 => ?_)
        · have hF := vIt c17 hF
          refine lv_iconst (v := (-1)) hx hb d_Mod_transfer_83 (by decide) ?_
          exact ed_rI B hr hA hP hD hS (vP hF) d_Mod_transfer_84
        · have hF := vIf c17 hF
          refine lv_iload_n hx hb d_Mod_transfer_43 rfl (lv_at hl 3 rfl) ?_
          refine lv_iconst (v := 1) hx hb d_Mod_transfer_44 (by decide) ?_
          refine lv_bipush (v := 99) hx hb d_Mod_transfer_45 (by decide) ?_
          obtain ⟨r20, σ18, q19, hF⟩ := vB2_some hF
          refine ed_csI (As := [.int x3, .int 1, .int 99]) (rest := []) B hP hD hS hA (C_Mod_is l D ad ca x3 1 99 σ14 r20 σ18  q19) me_Mod_is st_Mod_is L_Mod_157 ⟨rfl, rfl⟩ ⟨Nat.le_of_ble_eq_true rfl, Nat.le_of_ble_eq_true rfl⟩ rfl rfl hl.1 (lv_room (Nat.le_of_ble_eq_true rfl)) d_Mod_transfer_47 (fun H locs hP hD hS => ?_)
          refine lv_if_eq (tgt := 83) hx hb d_Mod_transfer_50 (by decide) (fun c21 => ?_) (fun c21 => ?_)
          · have hF := vIt c21 hF
            refine lv_iconst (v := (-1)) hx hb d_Mod_transfer_83 (by decide) ?_
            exact ed_rI B hr hA hP hD hS (vP hF) d_Mod_transfer_84
          · have hF := vIf c21 hF
            refine lv_iload hx hb d_Mod_transfer_53 (lv_at hl 4 rfl) ?_
            refine lv_iconst (v := (-1)) hx hb d_Mod_transfer_55 (by decide) ?_
            refine lv_icmp_eq (tgt := 85) hx hb d_Mod_transfer_56 (by decide) (fun c22 => ?_) (fun c22 => ?_)
            · have hF := vIt c22 hF
              exact T_Mod_transfer_85 B hr hA  x1 x2 x3 x4 σ18  hF _ _ _ hP hD hS (lv_sub hl [0, 1, 2, 3, 4] rfl)
            · have hF := vIf c22 hF
              refine lv_aload_n hx hb d_Mod_transfer_59 rfl (lv_at hl 0 rfl) ?_
              refine lv_iload hx hb d_Mod_transfer_60 (lv_at hl 4 rfl) ?_
              obtain ⟨r25, σ23, q24, hF⟩ := vB2_some hF
              refine ed_cvI (As := [.int x4]) (rest := []) B hP hD hS hA (C_Mod_isHandle l D ad ca x4 σ18 r25 σ23  q24) me_Mod_isHandle mv_Mod_isHandle L_Mod_220 (ed_rc_Mod B hP (by decide)) ⟨rfl, rfl⟩ ⟨Nat.le_of_ble_eq_true rfl, Nat.le_of_ble_eq_true rfl⟩ rfl rfl hl.1 (lv_room (Nat.le_of_ble_eq_true rfl)) d_Mod_transfer_62 (fun H locs hP hD hS => ?_)
              refine lv_if_eq (tgt := 83) hx hb d_Mod_transfer_65 (by decide) (fun c26 => ?_) (fun c26 => ?_)
              · have hF := vIt c26 hF
                refine lv_iconst (v := (-1)) hx hb d_Mod_transfer_83 (by decide) ?_
                exact ed_rI B hr hA hP hD hS (vP hF) d_Mod_transfer_84
              · have hF := vIf c26 hF
                refine lv_aload_n hx hb d_Mod_transfer_68 rfl (lv_at hl 0 rfl) ?_
                refine gf_Mod_type B hP (by decide) L_Mod_77 d_Mod_transfer_69 ?_
                refine lv_aload_n hx hb d_Mod_transfer_72 rfl (lv_at hl 0 rfl) ?_
                refine lv_iload hx hb d_Mod_transfer_73 (lv_at hl 4 rfl) ?_
                obtain ⟨r29, σ27, q28, hF⟩ := vB2_some hF
                refine ed_cvI (As := [.int x4]) (rest := [.ref (ad (pMtype 0))]) B hP hD hS hA (C_Mod_objectOf l D ad ca x4 σ23 r29 σ27  q28) me_Mod_objectOf mv_Mod_objectOf L_Mod_224 (ed_rc_Mod B hP (by decide)) ⟨rfl, rfl⟩ ⟨Nat.le_of_ble_eq_true rfl, Nat.le_of_ble_eq_true rfl⟩ rfl rfl hl.1 (lv_room (Nat.le_of_ble_eq_true rfl)) d_Mod_transfer_75 (fun H locs hP hD hS => ?_)
                obtain ⟨j30, ej31, hj32, hn33, hF⟩ := vG_some hF
                refine il_Mtype B hP (by decide) hn33 ej31 d_Mod_transfer_78 ?_
                refine lv_iconst (v := 1) hx hb d_Mod_transfer_79 (by decide) ?_
                refine lv_icmp_le (tgt := 85) hx hb d_Mod_transfer_80 (by decide) (fun c34 => ?_) (fun c34 => ?_)
                · have hF := vIt c34 hF
                  exact T_Mod_transfer_85 B hr hA  x1 x2 x3 x4 σ27  hF _ _ _ hP hD hS (lv_sub hl [0, 1, 2, 3, 4] rfl)
                · have hF := vIf c34 hF
                  refine lv_iconst (v := (-1)) hx hb d_Mod_transfer_83 (by decide) ?_
                  exact ed_rI B hr hA hP hD hS (vP hF) d_Mod_transfer_84
  · have hF := vIf c1 hF
    refine lv_bipush (v := (-3)) hx hb d_Mod_transfer_7 (by decide) ?_
    exact ed_rI B hr hA hP hD hS (vP hF) d_Mod_transfer_9
set_option maxHeartbeats 4000000 in
set_option maxRecDepth 100000 in
theorem C_Mod_transfer (l : Launch) (D : va_G) (ad : Nat → Nat) (ca : Nat → ClassId) (x1 : Int32) (x2 : Int32) (x3 : Int32) (x4 : Int32) (σ : ed_S) (r : Int32) (σ' : ed_S) (hF : F_Mod_transfer x1 x2 x3 x4 σ = some (r, σ')) : ed_MI l y_Mod_transfer ws_Mod_transfer rm_Mod_transfer D ca (md_w ad ca) [.ref (ad (pMod 0)), .int x1, .int x2, .int x3, .int x4] σ r σ' := by
  refine ed_metI (cc := prog_10_method_40_code) (own := "ExecutiveDeskModel") (nL := 9) (ret := (some .int)) (by decide) rfl rfl (Nat.le_of_ble_eq_true rfl) ?_
  intro p e s m args below meth c A B hr hA
  exact T_Mod_transfer B hr hA x1 x2 x3 x4 σ  hF
end EDT
