section EDT
variable {p : Program} {l : Launch} {e : Env} {s : State} {m : MethodId} {args : Array Value} {below : List Frame} {meth : Method} {c : Code} {D : va_G} {ad : Nat → Nat} {ca : Nat → ClassId} {A : Nat → Prop}
abbrev ws_Mod_ready : List Cond := Cond.code y_Mod_ready prog_10_method_13_code 2 none :: ed_tb
abbrev rm_Mod_ready : Room := { frames := 0, cells := 0, slots := 0, locals := 0 }
def F_Mod_ready (x1 : Int32) (σ : ed_S) : Option ed_S := (vG x1 8 fun j1 => vL (ed_st σ 7 0 j1 1) fun σ5 => (vL (ed_st σ5 51 0 0 ((σ5 51 0 0) + 1)) fun σ7 => (vG x1 8 fun j9 => vL (ed_st σ7 16 0 j9 ((σ5 51 0 0) + 1)) fun σ13 => (some σ13))))
set_option maxHeartbeats 4000000 in
set_option maxRecDepth 100000 in
theorem T_Mod_ready {σ' : ed_S} (B : ed_B p s m args meth c prog_10_method_13_code "ExecutiveDeskModel" 2 D ca) (hr : meth.sig.returnType = none) (hA : ∀ q : Nat, s.heap.size ≤ q → A q) : ∀ (x1 : Int32) (σ : ed_S), F_Mod_ready  x1 σ = some σ' → ed_G p l e rm_Mod_ready s m args below meth c D ca (md_w ad ca) A (ed_QV D ca (md_w ad ca) A below args s σ') 2 0 [(0, .ref (ad (pMod 0))), (1, .int x1)] [] σ := by
  have hx := B.1
  have hb := B.2.1
  intro x1 σ  hF H locs ls hP hD hS hl
  have hF : (vG x1 8 fun j1 => vL (ed_st σ 7 0 j1 1) fun σ5 => (vL (ed_st σ5 51 0 0 ((σ5 51 0 0) + 1)) fun σ7 => (vG x1 8 fun j9 => vL (ed_st σ7 16 0 j9 ((σ5 51 0 0) + 1)) fun σ13 => (some σ13)))) = some σ' := hF
  refine lv_aload_n hx hb d_Mod_ready_0 rfl (lv_at hl 0 rfl) ?_
  refine gf_Mod_state B hP (by decide) L_Mod_31 d_Mod_ready_1 ?_
  refine lv_iload_n hx hb d_Mod_ready_4 rfl (lv_at hl 1 rfl) ?_
  refine lv_iconst (v := 1) hx hb d_Mod_ready_5 (by decide) ?_
  obtain ⟨j1, ej2, hj3, hn4, hF⟩ := vG_some hF
  obtain ⟨σ5, e6, hF⟩ := vL_some hF
  refine is_Mstate B hP hD hS (by decide) hn4 ej2 e6 d_Mod_ready_6 (fun H locs hP hD hS => ?_)
  refine lv_aload_n hx hb d_Mod_ready_7 rfl (lv_at hl 0 rfl) ?_
  refine gf_Mod_stands B hP (by decide) L_Mod_58 d_Mod_ready_8 ?_
  refine lv_iload_n hx hb d_Mod_ready_11 rfl (lv_at hl 1 rfl) ?_
  refine lv_aload_n hx hb d_Mod_ready_12 rfl (lv_at hl 0 rfl) ?_
  refine lv_dup hx hb d_Mod_ready_13 rfl ?_
  refine gf_Mod_orders B hP (by decide) L_Mod_171 d_Mod_ready_14 ?_
  refine lv_iconst (v := 1) hx hb d_Mod_ready_17 (by decide) ?_
  refine lv_iadd hx hb d_Mod_ready_18 ?_
  refine lv_dup_x1 hx hb d_Mod_ready_19 rfl rfl ?_
  obtain ⟨σ7, e8, hF⟩ := vL_some hF
  refine pf_Mod_orders B hP hD hS (by decide) e8 L_Mod_171 d_Mod_ready_20 (fun H locs hP hD hS => ?_)
  obtain ⟨j9, ej10, hj11, hn12, hF⟩ := vG_some hF
  obtain ⟨σ13, e14, hF⟩ := vL_some hF
  refine is_Mstands B hP hD hS (by decide) hn12 ej10 e14 d_Mod_ready_23 (fun H locs hP hD hS => ?_)
  exact ed_rV B hr hA hP hD hS (Option.some.inj hF) d_Mod_ready_24
set_option maxHeartbeats 4000000 in
set_option maxRecDepth 100000 in
theorem C_Mod_ready (l : Launch) (D : va_G) (ad : Nat → Nat) (ca : Nat → ClassId) (x1 : Int32) (σ : ed_S) (σ' : ed_S) (hF : F_Mod_ready x1 σ = some σ') : ed_MV l y_Mod_ready ws_Mod_ready rm_Mod_ready D ca (md_w ad ca) [.ref (ad (pMod 0)), .int x1] σ σ' := by
  refine ed_metV (cc := prog_10_method_13_code) (own := "ExecutiveDeskModel") (nL := 2) (ret := none) (by decide) rfl rfl (Nat.le_of_ble_eq_true rfl) ?_
  intro p e s m args below meth c A B hr hA
  exact T_Mod_ready B hr hA x1 σ  hF
abbrev ws_Mod_next : List Cond := Cond.code y_Mod_next prog_10_method_14_code 3 (some .int) :: ed_tb
abbrev rm_Mod_next : Room := { frames := 0, cells := 0, slots := 0, locals := 0 }
def F_Mod_next_4 : Nat → Int32 → Int32 → ed_S → Option (Int32 × ed_S)
  | 0, _, _, _ => none
  | n + 1, x1, x2, σ => (if (σ 43 0 0) ≤ x2 then (some (x1, σ)) else (vG x2 8 fun j2 => (if (σ 7 0 j2) = 1 then (if x1 < 0 then ((F_Mod_next_4  n) x2 (x2 + 1) σ) else (vG x2 8 fun j8 => (vG x1 8 fun j12 => (if (σ 6 0 j12) < (σ 6 0 j8) then ((F_Mod_next_4  n) x2 (x2 + 1) σ) else (vG x2 8 fun j17 => (vG x1 8 fun j21 => (if (σ 6 0 j17) = (σ 6 0 j21) then (vG x2 8 fun j26 => (vG x1 8 fun j30 => (if (σ 16 0 j30) ≤ (σ 16 0 j26) then ((F_Mod_next_4  n) x1 (x2 + 1) σ) else ((F_Mod_next_4  n) x2 (x2 + 1) σ)))) else ((F_Mod_next_4  n) x1 (x2 + 1) σ)))))))) else ((F_Mod_next_4  n) x1 (x2 + 1) σ))))
def F_Mod_next (σ : ed_S) : Option (Int32 × ed_S) := (F_Mod_next_4  ed_fu (-1) 0 σ)
set_option maxHeartbeats 4000000 in
set_option maxRecDepth 100000 in
theorem T_Mod_next_4 {r : Int32} {σ' : ed_S} (B : ed_B p s m args meth c prog_10_method_14_code "ExecutiveDeskModel" 3 D ca) (hr : meth.sig.returnType = (some .int)) (hA : ∀ q : Nat, s.heap.size ≤ q → A q) : ∀ (n : Nat) (x1 : Int32) (x2 : Int32) (σ : ed_S), F_Mod_next_4  n x1 x2 σ = some (r, σ') → ed_G p l e rm_Mod_next s m args below meth c D ca (md_w ad ca) A (ed_QI D ca (md_w ad ca) A below args s r σ') 3 4 [(0, .ref (ad (pMod 0))), (1, .int x1), (2, .int x2)] [] σ := by
  have hx := B.1
  have hb := B.2.1
  intro n
  induction n with
  | zero => intro x1 x2 σ  hF; exact absurd hF (by intro h; cases h)
  | succ n kk4 =>
    intro x1 x2 σ  hF H locs ls hP hD hS hl
    have hF : (if (σ 43 0 0) ≤ x2 then (some (x1, σ)) else (vG x2 8 fun j2 => (if (σ 7 0 j2) = 1 then (if x1 < 0 then ((F_Mod_next_4  n) x2 (x2 + 1) σ) else (vG x2 8 fun j8 => (vG x1 8 fun j12 => (if (σ 6 0 j12) < (σ 6 0 j8) then ((F_Mod_next_4  n) x2 (x2 + 1) σ) else (vG x2 8 fun j17 => (vG x1 8 fun j21 => (if (σ 6 0 j17) = (σ 6 0 j21) then (vG x2 8 fun j26 => (vG x1 8 fun j30 => (if (σ 16 0 j30) ≤ (σ 16 0 j26) then ((F_Mod_next_4  n) x1 (x2 + 1) σ) else ((F_Mod_next_4  n) x2 (x2 + 1) σ)))) else ((F_Mod_next_4  n) x1 (x2 + 1) σ)))))))) else ((F_Mod_next_4  n) x1 (x2 + 1) σ)))) = some (r, σ') := hF
    refine lv_iload_n hx hb d_Mod_next_4 rfl (lv_at hl 2 rfl) ?_
    refine lv_aload_n hx hb d_Mod_next_5 rfl (lv_at hl 0 rfl) ?_
    refine gf_Mod_threads B hP (by decide) L_Mod_144 d_Mod_next_6 ?_
    refine lv_icmp_ge (tgt := 82) hx hb d_Mod_next_9 (by decide) (fun c1 => ?_) (fun c1 => ?_)
    · have hF := vIt c1 hF
      refine lv_iload_n hx hb d_Mod_next_82 rfl (lv_at hl 1 rfl) ?_
      exact ed_rI B hr hA hP hD hS (vP hF) d_Mod_next_83
    · have hF := vIf c1 hF
      refine lv_aload_n hx hb d_Mod_next_12 rfl (lv_at hl 0 rfl) ?_
      refine gf_Mod_state B hP (by decide) L_Mod_31 d_Mod_next_13 ?_
      refine lv_iload_n hx hb d_Mod_next_16 rfl (lv_at hl 2 rfl) ?_
      obtain ⟨j2, ej3, hj4, hn5, hF⟩ := vG_some hF
      refine il_Mstate B hP (by decide) hn5 ej3 d_Mod_next_17 ?_
      refine lv_iconst (v := 1) hx hb d_Mod_next_18 (by decide) ?_
      refine lv_icmp_eq (tgt := 25) hx hb d_Mod_next_19 (by decide) (fun c6 => ?_) (fun c6 => ?_)
      · have hF := vIt c6 hF
        refine lv_iload_n hx hb d_Mod_next_25 rfl (lv_at hl 1 rfl) ?_
        refine lv_if_lt (tgt := 74) hx hb d_Mod_next_26 (by decide) (fun c7 => ?_) (fun c7 => ?_)
        · have hF := vIt c7 hF
          refine lv_iload_n hx hb d_Mod_next_74 rfl (lv_at hl 2 rfl) ?_
          refine lv_istore_n (lv' := [(1, .int x2), (0, .ref (ad (pMod 0))), (2, .int x2)]) hx hb d_Mod_next_75 rfl hl (by decide) rfl (fun ls hl => ?_)
          refine lv_iinc (v := (x2 + 1)) (lv' := [(2, .int (x2 + 1)), (1, .int x2), (0, .ref (ad (pMod 0)))]) hx hb d_Mod_next_76 hl (k := 2) rfl rfl (by decide) rfl (fun ls hl => ?_)
          refine lv_goto (tgt := 4) hx hb d_Mod_next_79 (by decide) ?_
          exact kk4 x2 (x2 + 1) σ  hF _ _ _ hP hD hS (lv_sub hl [2, 1, 0] rfl)
        · have hF := vIf c7 hF
          refine lv_aload_n hx hb d_Mod_next_29 rfl (lv_at hl 0 rfl) ?_
          refine gf_Mod_priority B hP (by decide) L_Mod_28 d_Mod_next_30 ?_
          refine lv_iload_n hx hb d_Mod_next_33 rfl (lv_at hl 2 rfl) ?_
          obtain ⟨j8, ej9, hj10, hn11, hF⟩ := vG_some hF
          refine il_Mpriority B hP (by decide) hn11 ej9 d_Mod_next_34 ?_
          refine lv_aload_n hx hb d_Mod_next_35 rfl (lv_at hl 0 rfl) ?_
          refine gf_Mod_priority B hP (by decide) L_Mod_28 d_Mod_next_36 ?_
          refine lv_iload_n hx hb d_Mod_next_39 rfl (lv_at hl 1 rfl) ?_
          obtain ⟨j12, ej13, hj14, hn15, hF⟩ := vG_some hF
          refine il_Mpriority B hP (by decide) hn15 ej13 d_Mod_next_40 ?_
          refine lv_icmp_gt (tgt := 74) hx hb d_Mod_next_41 (by decide) (fun c16 => ?_) (fun c16 => ?_)
          · have hF := vIt c16 hF
            refine lv_iload_n hx hb d_Mod_next_74 rfl (lv_at hl 2 rfl) ?_
            refine lv_istore_n (lv' := [(1, .int x2), (0, .ref (ad (pMod 0))), (2, .int x2)]) hx hb d_Mod_next_75 rfl hl (by decide) rfl (fun ls hl => ?_)
            refine lv_iinc (v := (x2 + 1)) (lv' := [(2, .int (x2 + 1)), (1, .int x2), (0, .ref (ad (pMod 0)))]) hx hb d_Mod_next_76 hl (k := 2) rfl rfl (by decide) rfl (fun ls hl => ?_)
            refine lv_goto (tgt := 4) hx hb d_Mod_next_79 (by decide) ?_
            exact kk4 x2 (x2 + 1) σ  hF _ _ _ hP hD hS (lv_sub hl [2, 1, 0] rfl)
          · have hF := vIf c16 hF
            refine lv_aload_n hx hb d_Mod_next_44 rfl (lv_at hl 0 rfl) ?_
            refine gf_Mod_priority B hP (by decide) L_Mod_28 d_Mod_next_45 ?_
            refine lv_iload_n hx hb d_Mod_next_48 rfl (lv_at hl 2 rfl) ?_
            obtain ⟨j17, ej18, hj19, hn20, hF⟩ := vG_some hF
            refine il_Mpriority B hP (by decide) hn20 ej18 d_Mod_next_49 ?_
            refine lv_aload_n hx hb d_Mod_next_50 rfl (lv_at hl 0 rfl) ?_
            refine gf_Mod_priority B hP (by decide) L_Mod_28 d_Mod_next_51 ?_
            refine lv_iload_n hx hb d_Mod_next_54 rfl (lv_at hl 1 rfl) ?_
            obtain ⟨j21, ej22, hj23, hn24, hF⟩ := vG_some hF
            refine il_Mpriority B hP (by decide) hn24 ej22 d_Mod_next_55 ?_
            refine lv_icmp_ne (tgt := 76) hx hb d_Mod_next_56 (by decide) (fun c25 => ?_) (fun c25 => ?_)
            · have hF := vIf c25 hF
              refine lv_iinc (v := (x2 + 1)) (lv' := [(2, .int (x2 + 1)), (0, .ref (ad (pMod 0))), (1, .int x1)]) hx hb d_Mod_next_76 hl (k := 2) rfl rfl (by decide) rfl (fun ls hl => ?_)
              refine lv_goto (tgt := 4) hx hb d_Mod_next_79 (by decide) ?_
              exact kk4 x1 (x2 + 1) σ  hF _ _ _ hP hD hS (lv_sub hl [1, 2, 0] rfl)
            · have hF := vIt c25 hF
              refine lv_aload_n hx hb d_Mod_next_59 rfl (lv_at hl 0 rfl) ?_
              refine gf_Mod_stands B hP (by decide) L_Mod_58 d_Mod_next_60 ?_
              refine lv_iload_n hx hb d_Mod_next_63 rfl (lv_at hl 2 rfl) ?_
              obtain ⟨j26, ej27, hj28, hn29, hF⟩ := vG_some hF
              refine il_Mstands B hP (by decide) hn29 ej27 d_Mod_next_64 ?_
              refine lv_aload_n hx hb d_Mod_next_65 rfl (lv_at hl 0 rfl) ?_
              refine gf_Mod_stands B hP (by decide) L_Mod_58 d_Mod_next_66 ?_
              refine lv_iload_n hx hb d_Mod_next_69 rfl (lv_at hl 1 rfl) ?_
              obtain ⟨j30, ej31, hj32, hn33, hF⟩ := vG_some hF
              refine il_Mstands B hP (by decide) hn33 ej31 d_Mod_next_70 ?_
              refine lv_icmp_ge (tgt := 76) hx hb d_Mod_next_71 (by decide) (fun c34 => ?_) (fun c34 => ?_)
              · have hF := vIt c34 hF
                refine lv_iinc (v := (x2 + 1)) (lv' := [(2, .int (x2 + 1)), (0, .ref (ad (pMod 0))), (1, .int x1)]) hx hb d_Mod_next_76 hl (k := 2) rfl rfl (by decide) rfl (fun ls hl => ?_)
                refine lv_goto (tgt := 4) hx hb d_Mod_next_79 (by decide) ?_
                exact kk4 x1 (x2 + 1) σ  hF _ _ _ hP hD hS (lv_sub hl [1, 2, 0] rfl)
              · have hF := vIf c34 hF
                refine lv_iload_n hx hb d_Mod_next_74 rfl (lv_at hl 2 rfl) ?_
                refine lv_istore_n (lv' := [(1, .int x2), (0, .ref (ad (pMod 0))), (2, .int x2)]) hx hb d_Mod_next_75 rfl hl (by decide) rfl (fun ls hl => ?_)
                refine lv_iinc (v := (x2 + 1)) (lv' := [(2, .int (x2 + 1)), (1, .int x2), (0, .ref (ad (pMod 0)))]) hx hb d_Mod_next_76 hl (k := 2) rfl rfl (by decide) rfl (fun ls hl => ?_)
                refine lv_goto (tgt := 4) hx hb d_Mod_next_79 (by decide) ?_
                exact kk4 x2 (x2 + 1) σ  hF _ _ _ hP hD hS (lv_sub hl [2, 1, 0] rfl)
      · have hF := vIf c6 hF
        refine lv_goto (tgt := 76) hx hb d_Mod_next_22 (by decide) ?_
        refine lv_iinc (v := (x2 + 1)) (lv' := [(2, .int (x2 + 1)), (0, .ref (ad (pMod 0))), (1, .int x1)]) hx hb d_Mod_next_76 hl (k := 2) rfl rfl (by decide) rfl (fun ls hl => ?_)
        refine lv_goto (tgt := 4) hx hb d_Mod_next_79 (by decide) ?_
        exact kk4 x1 (x2 + 1) σ  hF _ _ _ hP hD hS (lv_sub hl [1, 2, 0] rfl)
set_option maxHeartbeats 4000000 in
set_option maxRecDepth 100000 in
theorem T_Mod_next {r : Int32} {σ' : ed_S} (B : ed_B p s m args meth c prog_10_method_14_code "ExecutiveDeskModel" 3 D ca) (hr : meth.sig.returnType = (some .int)) (hA : ∀ q : Nat, s.heap.size ≤ q → A q) : ∀ (σ : ed_S), F_Mod_next   σ = some (r, σ') → ed_G p l e rm_Mod_next s m args below meth c D ca (md_w ad ca) A (ed_QI D ca (md_w ad ca) A below args s r σ') 3 0 [(0, .ref (ad (pMod 0)))] [] σ := by
  have hx := B.1
  have hb := B.2.1
  intro  σ  hF H locs ls hP hD hS hl
  have hF : (F_Mod_next_4  ed_fu (-1) 0 σ) = some (r, σ') := hF
  refine lv_iconst (v := (-1)) hx hb d_Mod_next_0 (by decide) ?_
  refine lv_istore_n (lv' := [(1, .int (-1)), (0, .ref (ad (pMod 0)))]) hx hb d_Mod_next_1 rfl hl (by decide) rfl (fun ls hl => ?_)
  refine lv_iconst (v := 0) hx hb d_Mod_next_2 (by decide) ?_
  refine lv_istore_n (lv' := [(2, .int 0), (1, .int (-1)), (0, .ref (ad (pMod 0)))]) hx hb d_Mod_next_3 rfl hl (by decide) rfl (fun ls hl => ?_)
  exact T_Mod_next_4 B hr hA  ed_fu (-1) 0 σ  hF _ _ _ hP hD hS (lv_sub hl [2, 1, 0] rfl)
set_option maxHeartbeats 4000000 in
set_option maxRecDepth 100000 in
theorem C_Mod_next (l : Launch) (D : va_G) (ad : Nat → Nat) (ca : Nat → ClassId) (σ : ed_S) (r : Int32) (σ' : ed_S) (hF : F_Mod_next  σ = some (r, σ')) : ed_MI l y_Mod_next ws_Mod_next rm_Mod_next D ca (md_w ad ca) [.ref (ad (pMod 0))] σ r σ' := by
  refine ed_metI (cc := prog_10_method_14_code) (own := "ExecutiveDeskModel") (nL := 3) (ret := (some .int)) (by decide) rfl rfl (Nat.le_of_ble_eq_true rfl) ?_
  intro p e s m args below meth c A B hr hA
  exact T_Mod_next B hr hA  σ  hF
abbrev ws_Mod_run : List Cond := Cond.code y_Mod_run prog_10_method_15_code 2 none :: ed_tb
abbrev rm_Mod_run : Room := { frames := 0, cells := 0, slots := 0, locals := 0 }
def F_Mod_run (x1 : Int32) (σ : ed_S) : Option ed_S := (vG x1 8 fun j1 => vL (ed_st σ 7 0 j1 0) fun σ5 => (vL (ed_st σ5 44 0 0 x1) fun σ7 => (if x1 = (σ7 45 0 0) then (vL (ed_st σ7 45 0 0 x1) fun σ10 => (some σ10)) else (vL (ed_st σ7 49 0 0 ((σ7 49 0 0) + 1)) fun σ12 => (vL (ed_st σ12 45 0 0 x1) fun σ14 => (some σ14))))))
set_option maxHeartbeats 4000000 in
set_option maxRecDepth 100000 in
theorem T_Mod_run {σ' : ed_S} (B : ed_B p s m args meth c prog_10_method_15_code "ExecutiveDeskModel" 2 D ca) (hr : meth.sig.returnType = none) (hA : ∀ q : Nat, s.heap.size ≤ q → A q) : ∀ (x1 : Int32) (σ : ed_S), F_Mod_run  x1 σ = some σ' → ed_G p l e rm_Mod_run s m args below meth c D ca (md_w ad ca) A (ed_QV D ca (md_w ad ca) A below args s σ') 2 0 [(0, .ref (ad (pMod 0))), (1, .int x1)] [] σ := by
  have hx := B.1
  have hb := B.2.1
  intro x1 σ  hF H locs ls hP hD hS hl
  have hF : (vG x1 8 fun j1 => vL (ed_st σ 7 0 j1 0) fun σ5 => (vL (ed_st σ5 44 0 0 x1) fun σ7 => (if x1 = (σ7 45 0 0) then (vL (ed_st σ7 45 0 0 x1) fun σ10 => (some σ10)) else (vL (ed_st σ7 49 0 0 ((σ7 49 0 0) + 1)) fun σ12 => (vL (ed_st σ12 45 0 0 x1) fun σ14 => (some σ14)))))) = some σ' := hF
  refine lv_aload_n hx hb d_Mod_run_0 rfl (lv_at hl 0 rfl) ?_
  refine gf_Mod_state B hP (by decide) L_Mod_31 d_Mod_run_1 ?_
  refine lv_iload_n hx hb d_Mod_run_4 rfl (lv_at hl 1 rfl) ?_
  refine lv_iconst (v := 0) hx hb d_Mod_run_5 (by decide) ?_
  obtain ⟨j1, ej2, hj3, hn4, hF⟩ := vG_some hF
  obtain ⟨σ5, e6, hF⟩ := vL_some hF
  refine is_Mstate B hP hD hS (by decide) hn4 ej2 e6 d_Mod_run_6 (fun H locs hP hD hS => ?_)
  refine lv_aload_n hx hb d_Mod_run_7 rfl (lv_at hl 0 rfl) ?_
  refine lv_iload_n hx hb d_Mod_run_8 rfl (lv_at hl 1 rfl) ?_
  obtain ⟨σ7, e8, hF⟩ := vL_some hF
  refine pf_Mod_running B hP hD hS (by decide) e8 L_Mod_137 d_Mod_run_9 (fun H locs hP hD hS => ?_)
  refine lv_iload_n hx hb d_Mod_run_12 rfl (lv_at hl 1 rfl) ?_
  refine lv_aload_n hx hb d_Mod_run_13 rfl (lv_at hl 0 rfl) ?_
  refine gf_Mod_last B hP (by decide) L_Mod_141 d_Mod_run_14 ?_
  refine lv_icmp_eq (tgt := 30) hx hb d_Mod_run_17 (by decide) (fun c9 => ?_) (fun c9 => ?_)
  · have hF := vIt c9 hF
    refine lv_aload_n hx hb d_Mod_run_30 rfl (lv_at hl 0 rfl) ?_
    refine lv_iload_n hx hb d_Mod_run_31 rfl (lv_at hl 1 rfl) ?_
    obtain ⟨σ10, e11, hF⟩ := vL_some hF
    refine pf_Mod_last B hP hD hS (by decide) e11 L_Mod_141 d_Mod_run_32 (fun H locs hP hD hS => ?_)
    exact ed_rV B hr hA hP hD hS (Option.some.inj hF) d_Mod_run_35
  · have hF := vIf c9 hF
    refine lv_aload_n hx hb d_Mod_run_20 rfl (lv_at hl 0 rfl) ?_
    refine lv_dup hx hb d_Mod_run_21 rfl ?_
    refine gf_Mod_switches B hP (by decide) L_Mod_174 d_Mod_run_22 ?_
    refine lv_iconst (v := 1) hx hb d_Mod_run_25 (by decide) ?_
    refine lv_iadd hx hb d_Mod_run_26 ?_
    obtain ⟨σ12, e13, hF⟩ := vL_some hF
    refine pf_Mod_switches B hP hD hS (by decide) e13 L_Mod_174 d_Mod_run_27 (fun H locs hP hD hS => ?_)
    refine lv_aload_n hx hb d_Mod_run_30 rfl (lv_at hl 0 rfl) ?_
    refine lv_iload_n hx hb d_Mod_run_31 rfl (lv_at hl 1 rfl) ?_
    obtain ⟨σ14, e15, hF⟩ := vL_some hF
    refine pf_Mod_last B hP hD hS (by decide) e15 L_Mod_141 d_Mod_run_32 (fun H locs hP hD hS => ?_)
    exact ed_rV B hr hA hP hD hS (Option.some.inj hF) d_Mod_run_35
set_option maxHeartbeats 4000000 in
set_option maxRecDepth 100000 in
theorem C_Mod_run (l : Launch) (D : va_G) (ad : Nat → Nat) (ca : Nat → ClassId) (x1 : Int32) (σ : ed_S) (σ' : ed_S) (hF : F_Mod_run x1 σ = some σ') : ed_MV l y_Mod_run ws_Mod_run rm_Mod_run D ca (md_w ad ca) [.ref (ad (pMod 0)), .int x1] σ σ' := by
  refine ed_metV (cc := prog_10_method_15_code) (own := "ExecutiveDeskModel") (nL := 2) (ret := none) (by decide) rfl rfl (Nat.le_of_ble_eq_true rfl) ?_
  intro p e s m args below meth c A B hr hA
  exact T_Mod_run B hr hA x1 σ  hF
abbrev ws_Mod_look : List Cond := Cond.code y_Mod_look prog_10_method_16_code 2 none :: ed_tb
abbrev rm_Mod_look : Room := { frames := 1, cells := 0, slots := 0, locals := 22 }
def F_Mod_look_47 (x1 : Int32) (σ : ed_S) : Option ed_S := (if (σ 44 0 0) < 0 then (vB1 (F_Mod_run x1 σ) fun σ2 => (some σ2)) else (vG (σ 44 0 0) 8 fun j4 => vL (ed_st σ 7 0 j4 1) fun σ8 => (vL (ed_st σ8 52 0 0 ((σ8 52 0 0) - 1)) fun σ10 => (vG (σ8 44 0 0) 8 fun j12 => vL (ed_st σ10 16 0 j12 ((σ8 52 0 0) - 1)) fun σ16 => (vB1 (F_Mod_run x1 σ16) fun σ18 => (some σ18))))))
def F_Mod_look_16 (s0 : Int32) (σ : ed_S) : Option ed_S := (if s0 < 0 then (some σ) else (if (σ 44 0 0) < 0 then (F_Mod_look_47  s0 σ) else (vG s0 8 fun j3 => (vG (σ 44 0 0) 8 fun j7 => (if (σ 6 0 j7) < (σ 6 0 j3) then (F_Mod_look_47  s0 σ) else (some σ))))))
def F_Mod_look (σ : ed_S) : Option ed_S := (if (σ 47 0 0) = 1 then (F_Mod_look_16  (-1) σ) else (vB2 (F_Mod_next  σ) fun r4 σ2 => (F_Mod_look_16  r4 σ2)))
set_option maxHeartbeats 4000000 in
set_option maxRecDepth 100000 in
theorem T_Mod_look_47 {σ' : ed_S} (B : ed_B p s m args meth c prog_10_method_16_code "ExecutiveDeskModel" 2 D ca) (hr : meth.sig.returnType = none) (hA : ∀ q : Nat, s.heap.size ≤ q → A q) : ∀ (x1 : Int32) (σ : ed_S), F_Mod_look_47  x1 σ = some σ' → ed_G p l e rm_Mod_look s m args below meth c D ca (md_w ad ca) A (ed_QV D ca (md_w ad ca) A below args s σ') 2 47 [(0, .ref (ad (pMod 0))), (1, .int x1)] [] σ := by
  have hx := B.1
  have hb := B.2.1
  intro x1 σ  hF H locs ls hP hD hS hl
  have hF : (if (σ 44 0 0) < 0 then (vB1 (F_Mod_run x1 σ) fun σ2 => (some σ2)) else (vG (σ 44 0 0) 8 fun j4 => vL (ed_st σ 7 0 j4 1) fun σ8 => (vL (ed_st σ8 52 0 0 ((σ8 52 0 0) - 1)) fun σ10 => (vG (σ8 44 0 0) 8 fun j12 => vL (ed_st σ10 16 0 j12 ((σ8 52 0 0) - 1)) fun σ16 => (vB1 (F_Mod_run x1 σ16) fun σ18 => (some σ18)))))) = some σ' := hF
  refine lv_aload_n hx hb d_Mod_look_47 rfl (lv_at hl 0 rfl) ?_
  refine gf_Mod_running B hP (by decide) L_Mod_137 d_Mod_look_48 ?_
  refine lv_if_lt (tgt := 84) hx hb d_Mod_look_51 (by decide) (fun c1 => ?_) (fun c1 => ?_)
  · have hF := vIt c1 hF
    refine lv_aload_n hx hb d_Mod_look_84 rfl (lv_at hl 0 rfl) ?_
    refine lv_iload_n hx hb d_Mod_look_85 rfl (lv_at hl 1 rfl) ?_
    obtain ⟨σ2, q3, hF⟩ := vB1_some hF
    refine ed_cvV (As := [.int x1]) (rest := []) B hP hD hS hA (C_Mod_run l D ad ca x1 σ σ2  q3) me_Mod_run mv_Mod_run L_Mod_187 (ed_rc_Mod B hP (by decide)) ⟨rfl, rfl⟩ ⟨Nat.le_of_ble_eq_true rfl, Nat.le_of_ble_eq_true rfl⟩ rfl rfl hl.1 (lv_room (Nat.le_of_ble_eq_true rfl)) d_Mod_look_86 (fun H locs hP hD hS => ?_)
    exact ed_rV B hr hA hP hD hS (Option.some.inj hF) d_Mod_look_89
  · have hF := vIf c1 hF
    refine lv_aload_n hx hb d_Mod_look_54 rfl (lv_at hl 0 rfl) ?_
    refine gf_Mod_state B hP (by decide) L_Mod_31 d_Mod_look_55 ?_
    refine lv_aload_n hx hb d_Mod_look_58 rfl (lv_at hl 0 rfl) ?_
    refine gf_Mod_running B hP (by decide) L_Mod_137 d_Mod_look_59 ?_
    refine lv_iconst (v := 1) hx hb d_Mod_look_62 (by decide) ?_
    obtain ⟨j4, ej5, hj6, hn7, hF⟩ := vG_some hF
    obtain ⟨σ8, e9, hF⟩ := vL_some hF
    refine is_Mstate B hP hD hS (by decide) hn7 ej5 e9 d_Mod_look_63 (fun H locs hP hD hS => ?_)
    refine lv_aload_n hx hb d_Mod_look_64 rfl (lv_at hl 0 rfl) ?_
    refine gf_Mod_stands B hP (by decide) L_Mod_58 d_Mod_look_65 ?_
    refine lv_aload_n hx hb d_Mod_look_68 rfl (lv_at hl 0 rfl) ?_
    refine gf_Mod_running B hP (by decide) L_Mod_137 d_Mod_look_69 ?_
    refine lv_aload_n hx hb d_Mod_look_72 rfl (lv_at hl 0 rfl) ?_
    refine lv_dup hx hb d_Mod_look_73 rfl ?_
    refine gf_Mod_front B hP (by decide) L_Mod_184 d_Mod_look_74 ?_
    refine lv_iconst (v := 1) hx hb d_Mod_look_77 (by decide) ?_
    refine lv_isub hx hb d_Mod_look_78 ?_
    refine lv_dup_x1 hx hb d_Mod_look_79 rfl rfl ?_
    obtain ⟨σ10, e11, hF⟩ := vL_some hF
    refine pf_Mod_front B hP hD hS (by decide) e11 L_Mod_184 d_Mod_look_80 (fun H locs hP hD hS => ?_)
    obtain ⟨j12, ej13, hj14, hn15, hF⟩ := vG_some hF
    obtain ⟨σ16, e17, hF⟩ := vL_some hF
    refine is_Mstands B hP hD hS (by decide) hn15 ej13 e17 d_Mod_look_83 (fun H locs hP hD hS => ?_)
    refine lv_aload_n hx hb d_Mod_look_84 rfl (lv_at hl 0 rfl) ?_
    refine lv_iload_n hx hb d_Mod_look_85 rfl (lv_at hl 1 rfl) ?_
    obtain ⟨σ18, q19, hF⟩ := vB1_some hF
    refine ed_cvV (As := [.int x1]) (rest := []) B hP hD hS hA (C_Mod_run l D ad ca x1 σ16 σ18  q19) me_Mod_run mv_Mod_run L_Mod_187 (ed_rc_Mod B hP (by decide)) ⟨rfl, rfl⟩ ⟨Nat.le_of_ble_eq_true rfl, Nat.le_of_ble_eq_true rfl⟩ rfl rfl hl.1 (lv_room (Nat.le_of_ble_eq_true rfl)) d_Mod_look_86 (fun H locs hP hD hS => ?_)
    exact ed_rV B hr hA hP hD hS (Option.some.inj hF) d_Mod_look_89
set_option maxHeartbeats 4000000 in
set_option maxRecDepth 100000 in
theorem T_Mod_look_16 {σ' : ed_S} (B : ed_B p s m args meth c prog_10_method_16_code "ExecutiveDeskModel" 2 D ca) (hr : meth.sig.returnType = none) (hA : ∀ q : Nat, s.heap.size ≤ q → A q) : ∀ (s0 : Int32) (σ : ed_S), F_Mod_look_16  s0 σ = some σ' → ed_G p l e rm_Mod_look s m args below meth c D ca (md_w ad ca) A (ed_QV D ca (md_w ad ca) A below args s σ') 2 16 [(0, .ref (ad (pMod 0)))] [.int s0] σ := by
  have hx := B.1
  have hb := B.2.1
  intro s0 σ  hF H locs ls hP hD hS hl
  have hF : (if s0 < 0 then (some σ) else (if (σ 44 0 0) < 0 then (F_Mod_look_47  s0 σ) else (vG s0 8 fun j3 => (vG (σ 44 0 0) 8 fun j7 => (if (σ 6 0 j7) < (σ 6 0 j3) then (F_Mod_look_47  s0 σ) else (some σ)))))) = some σ' := hF
  refine lv_istore_n (lv' := [(1, .int s0), (0, .ref (ad (pMod 0)))]) hx hb d_Mod_look_16 rfl hl (by decide) rfl (fun ls hl => ?_)
  refine lv_iload_n hx hb d_Mod_look_17 rfl (lv_at hl 0 rfl) ?_
  refine lv_if_lt (tgt := 46) hx hb d_Mod_look_18 (by decide) (fun c1 => ?_) (fun c1 => ?_)
  · have hF := vIt c1 hF
    exact ed_rV B hr hA hP hD hS (Option.some.inj hF) d_Mod_look_46
  · have hF := vIf c1 hF
    refine lv_aload_n hx hb d_Mod_look_21 rfl (lv_at hl 1 rfl) ?_
    refine gf_Mod_running B hP (by decide) L_Mod_137 d_Mod_look_22 ?_
    refine lv_if_lt (tgt := 47) hx hb d_Mod_look_25 (by decide) (fun c2 => ?_) (fun c2 => ?_)
    · have hF := vIt c2 hF
      exact T_Mod_look_47 B hr hA  s0 σ  hF _ _ _ hP hD hS (lv_sub hl [1, 0] rfl)
    · have hF := vIf c2 hF
      refine lv_aload_n hx hb d_Mod_look_28 rfl (lv_at hl 1 rfl) ?_
      refine gf_Mod_priority B hP (by decide) L_Mod_28 d_Mod_look_29 ?_
      refine lv_iload_n hx hb d_Mod_look_32 rfl (lv_at hl 0 rfl) ?_
      obtain ⟨j3, ej4, hj5, hn6, hF⟩ := vG_some hF
      refine il_Mpriority B hP (by decide) hn6 ej4 d_Mod_look_33 ?_
      refine lv_aload_n hx hb d_Mod_look_34 rfl (lv_at hl 1 rfl) ?_
      refine gf_Mod_priority B hP (by decide) L_Mod_28 d_Mod_look_35 ?_
      refine lv_aload_n hx hb d_Mod_look_38 rfl (lv_at hl 1 rfl) ?_
      refine gf_Mod_running B hP (by decide) L_Mod_137 d_Mod_look_39 ?_
      obtain ⟨j7, ej8, hj9, hn10, hF⟩ := vG_some hF
      refine il_Mpriority B hP (by decide) hn10 ej8 d_Mod_look_42 ?_
      refine lv_icmp_gt (tgt := 47) hx hb d_Mod_look_43 (by decide) (fun c11 => ?_) (fun c11 => ?_)
      · have hF := vIt c11 hF
        exact T_Mod_look_47 B hr hA  s0 σ  hF _ _ _ hP hD hS (lv_sub hl [1, 0] rfl)
      · have hF := vIf c11 hF
        exact ed_rV B hr hA hP hD hS (Option.some.inj hF) d_Mod_look_46
set_option maxHeartbeats 4000000 in
set_option maxRecDepth 100000 in
theorem T_Mod_look {σ' : ed_S} (B : ed_B p s m args meth c prog_10_method_16_code "ExecutiveDeskModel" 2 D ca) (hr : meth.sig.returnType = none) (hA : ∀ q : Nat, s.heap.size ≤ q → A q) : ∀ (σ : ed_S), F_Mod_look   σ = some σ' → ed_G p l e rm_Mod_look s m args below meth c D ca (md_w ad ca) A (ed_QV D ca (md_w ad ca) A below args s σ') 2 0 [(0, .ref (ad (pMod 0)))] [] σ := by
  have hx := B.1
  have hb := B.2.1
  intro  σ  hF H locs ls hP hD hS hl
  have hF : (if (σ 47 0 0) = 1 then (F_Mod_look_16  (-1) σ) else (vB2 (F_Mod_next  σ) fun r4 σ2 => (F_Mod_look_16  r4 σ2))) = some σ' := hF
  refine lv_aload_n hx hb d_Mod_look_0 rfl (lv_at hl 0 rfl) ?_
  refine gf_Mod_level B hP (by decide) L_Mod_177 d_Mod_look_1 ?_
  refine lv_iconst (v := 1) hx hb d_Mod_look_4 (by decide) ?_
  refine lv_icmp_ne (tgt := 12) hx hb d_Mod_look_5 (by decide) (fun c1 => ?_) (fun c1 => ?_)
  · have hF := vIf c1 hF
    refine lv_aload_n hx hb d_Mod_look_12 rfl (lv_at hl 0 rfl) ?_
    obtain ⟨r4, σ2, q3, hF⟩ := vB2_some hF
    refine ed_cvI (As := []) (rest := []) B hP hD hS hA (C_Mod_next l D ad ca  σ r4 σ2  q3) me_Mod_next mv_Mod_next L_Mod_180 (ed_rc_Mod B hP (by decide)) ⟨rfl, rfl⟩ ⟨Nat.le_of_ble_eq_true rfl, Nat.le_of_ble_eq_true rfl⟩ rfl rfl hl.1 (lv_room (Nat.le_of_ble_eq_true rfl)) d_Mod_look_13 (fun H locs hP hD hS => ?_)
    exact T_Mod_look_16 B hr hA  r4 σ2  hF _ _ _ hP hD hS (lv_sub hl [0] rfl)
  · have hF := vIt c1 hF
    refine lv_iconst (v := (-1)) hx hb d_Mod_look_8 (by decide) ?_
    refine lv_goto (tgt := 16) hx hb d_Mod_look_9 (by decide) ?_
    exact T_Mod_look_16 B hr hA  (-1) σ  hF _ _ _ hP hD hS (lv_sub hl [0] rfl)
set_option maxHeartbeats 4000000 in
set_option maxRecDepth 100000 in
theorem C_Mod_look (l : Launch) (D : va_G) (ad : Nat → Nat) (ca : Nat → ClassId) (σ : ed_S) (σ' : ed_S) (hF : F_Mod_look  σ = some σ') : ed_MV l y_Mod_look ws_Mod_look rm_Mod_look D ca (md_w ad ca) [.ref (ad (pMod 0))] σ σ' := by
  refine ed_metV (cc := prog_10_method_16_code) (own := "ExecutiveDeskModel") (nL := 2) (ret := none) (by decide) rfl rfl (Nat.le_of_ble_eq_true rfl) ?_
  intro p e s m args below meth c A B hr hA
  exact T_Mod_look B hr hA  σ  hF
abbrev ws_Mod_end : List Cond := Cond.code y_Mod_end prog_10_method_17_code 2 (some .int) :: ed_tb
abbrev rm_Mod_end : Room := { frames := 2, cells := 0, slots := 0, locals := 45 }
def F_Mod_end (x1 : Int32) (σ : ed_S) : Option (Int32 × ed_S) := (vB1 (F_Mod_tidy  σ) fun σ1 => (vB1 (F_Mod_look  σ1) fun σ3 => (some (x1, σ3))))
set_option maxHeartbeats 4000000 in
set_option maxRecDepth 100000 in
theorem T_Mod_end {r : Int32} {σ' : ed_S} (B : ed_B p s m args meth c prog_10_method_17_code "ExecutiveDeskModel" 2 D ca) (hr : meth.sig.returnType = (some .int)) (hA : ∀ q : Nat, s.heap.size ≤ q → A q) : ∀ (x1 : Int32) (σ : ed_S), F_Mod_end  x1 σ = some (r, σ') → ed_G p l e rm_Mod_end s m args below meth c D ca (md_w ad ca) A (ed_QI D ca (md_w ad ca) A below args s r σ') 2 0 [(0, .ref (ad (pMod 0))), (1, .int x1)] [] σ := by
  have hx := B.1
  have hb := B.2.1
  intro x1 σ  hF H locs ls hP hD hS hl
  have hF : (vB1 (F_Mod_tidy  σ) fun σ1 => (vB1 (F_Mod_look  σ1) fun σ3 => (some (x1, σ3)))) = some (r, σ') := hF
  refine lv_aload_n hx hb d_Mod_end_0 rfl (lv_at hl 0 rfl) ?_
  obtain ⟨σ1, q2, hF⟩ := vB1_some hF
  refine ed_cvV (As := []) (rest := []) B hP hD hS hA (C_Mod_tidy l D ad ca  σ σ1  q2) me_Mod_tidy mv_Mod_tidy L_Mod_190 (ed_rc_Mod B hP (by decide)) ⟨rfl, rfl⟩ ⟨Nat.le_of_ble_eq_true rfl, Nat.le_of_ble_eq_true rfl⟩ rfl rfl hl.1 (lv_room (Nat.le_of_ble_eq_true rfl)) d_Mod_end_1 (fun H locs hP hD hS => ?_)
  refine lv_aload_n hx hb d_Mod_end_4 rfl (lv_at hl 0 rfl) ?_
  obtain ⟨σ3, q4, hF⟩ := vB1_some hF
  refine ed_cvV (As := []) (rest := []) B hP hD hS hA (C_Mod_look l D ad ca  σ1 σ3  q4) me_Mod_look mv_Mod_look L_Mod_193 (ed_rc_Mod B hP (by decide)) ⟨rfl, rfl⟩ ⟨Nat.le_of_ble_eq_true rfl, Nat.le_of_ble_eq_true rfl⟩ rfl rfl hl.1 (lv_room (Nat.le_of_ble_eq_true rfl)) d_Mod_end_5 (fun H locs hP hD hS => ?_)
  refine lv_iload_n hx hb d_Mod_end_8 rfl (lv_at hl 1 rfl) ?_
  exact ed_rI B hr hA hP hD hS (vP hF) d_Mod_end_9
set_option maxHeartbeats 4000000 in
set_option maxRecDepth 100000 in
theorem C_Mod_end (l : Launch) (D : va_G) (ad : Nat → Nat) (ca : Nat → ClassId) (x1 : Int32) (σ : ed_S) (r : Int32) (σ' : ed_S) (hF : F_Mod_end x1 σ = some (r, σ')) : ed_MI l y_Mod_end ws_Mod_end rm_Mod_end D ca (md_w ad ca) [.ref (ad (pMod 0)), .int x1] σ r σ' := by
  refine ed_metI (cc := prog_10_method_17_code) (own := "ExecutiveDeskModel") (nL := 2) (ret := (some .int)) (by decide) rfl rfl (Nat.le_of_ble_eq_true rfl) ?_
  intro p e s m args below meth c A B hr hA
  exact T_Mod_end B hr hA x1 σ  hF
abbrev ws_Mod_thread : List Cond := Cond.code y_Mod_thread prog_10_method_12_code 4 (some .int) :: ed_tb
abbrev rm_Mod_thread : Room := { frames := 3, cells := 0, slots := 0, locals := 66 }
def F_Mod_thread_32 (x1 : Int32) (x2 : Int32) (σ : ed_S) : Option (Int32 × ed_S) := (vB2 (F_Mod_is x2 0 7 σ) fun r3 σ1 => (if r3 = 0 then (some ((-1), σ1)) else (if (σ1 43 0 0) = 8 then (some ((-2), σ1)) else (vL (ed_st σ1 43 0 0 ((σ1 43 0 0) + 1)) fun σ6 => (vG (σ1 43 0 0) 8 fun j8 => vL (ed_st σ6 5 0 j8 x1) fun σ12 => (vG (σ1 43 0 0) 8 fun j14 => vL (ed_st σ12 6 0 j14 x2) fun σ18 => (vG (σ1 43 0 0) 8 fun j20 => vL (ed_st σ18 8 0 j20 (-10)) fun σ24 => (vG (σ1 43 0 0) 8 fun j26 => vL (ed_st σ24 13 0 j26 (-1)) fun σ30 => (vG x1 4 fun j32 => (vG x1 4 fun j36 => vL (ed_st σ30 2 0 j36 ((σ30 2 0 j32) + 1)) fun σ40 => (vG x1 4 fun j42 => (vG x1 4 fun j46 => vL (ed_st σ40 1 0 j46 ((σ40 1 0 j42) + 1)) fun σ50 => (vB1 (F_Mod_ready (σ1 43 0 0) σ50) fun σ52 => (vB2 (F_Mod_end (σ1 43 0 0) σ52) fun r56 σ54 => (some (r56, σ54))))))))))))))))
def F_Mod_thread (x1 : Int32) (x2 : Int32) (σ : ed_S) : Option (Int32 × ed_S) := (vB2 (F_Mod_is x1 0 ((σ 42 0 0) - 1) σ) fun r3 σ1 => (if r3 = 0 then (some ((-1), σ1)) else (vG x1 4 fun j5 => (if (σ1 2 0 j5) ≤ 0 then (F_Mod_thread_32  x1 x2 σ1) else (vG x1 4 fun j10 => (if (σ1 1 0 j10) = 0 then (some ((-1), σ1)) else (F_Mod_thread_32  x1 x2 σ1)))))))
set_option maxHeartbeats 4000000 in
set_option maxRecDepth 100000 in
theorem T_Mod_thread_32 {r : Int32} {σ' : ed_S} (B : ed_B p s m args meth c prog_10_method_12_code "ExecutiveDeskModel" 4 D ca) (hr : meth.sig.returnType = (some .int)) (hA : ∀ q : Nat, s.heap.size ≤ q → A q) : ∀ (x1 : Int32) (x2 : Int32) (σ : ed_S), F_Mod_thread_32  x1 x2 σ = some (r, σ') → ed_G p l e rm_Mod_thread s m args below meth c D ca (md_w ad ca) A (ed_QI D ca (md_w ad ca) A below args s r σ') 4 32 [(0, .ref (ad (pMod 0))), (1, .int x1), (2, .int x2)] [] σ := by
  have hx := B.1
  have hb := B.2.1
  intro x1 x2 σ  hF H locs ls hP hD hS hl
  have hF : (vB2 (F_Mod_is x2 0 7 σ) fun r3 σ1 => (if r3 = 0 then (some ((-1), σ1)) else (if (σ1 43 0 0) = 8 then (some ((-2), σ1)) else (vL (ed_st σ1 43 0 0 ((σ1 43 0 0) + 1)) fun σ6 => (vG (σ1 43 0 0) 8 fun j8 => vL (ed_st σ6 5 0 j8 x1) fun σ12 => (vG (σ1 43 0 0) 8 fun j14 => vL (ed_st σ12 6 0 j14 x2) fun σ18 => (vG (σ1 43 0 0) 8 fun j20 => vL (ed_st σ18 8 0 j20 (-10)) fun σ24 => (vG (σ1 43 0 0) 8 fun j26 => vL (ed_st σ24 13 0 j26 (-1)) fun σ30 => (vG x1 4 fun j32 => (vG x1 4 fun j36 => vL (ed_st σ30 2 0 j36 ((σ30 2 0 j32) + 1)) fun σ40 => (vG x1 4 fun j42 => (vG x1 4 fun j46 => vL (ed_st σ40 1 0 j46 ((σ40 1 0 j42) + 1)) fun σ50 => (vB1 (F_Mod_ready (σ1 43 0 0) σ50) fun σ52 => (vB2 (F_Mod_end (σ1 43 0 0) σ52) fun r56 σ54 => (some (r56, σ54)))))))))))))))) = some (r, σ') := hF
  refine lv_iload_n hx hb d_Mod_thread_32 rfl (lv_at hl 2 rfl) ?_
  refine lv_iconst (v := 0) hx hb d_Mod_thread_33 (by decide) ?_
  refine lv_bipush (v := 7) hx hb d_Mod_thread_34 (by decide) ?_
  obtain ⟨r3, σ1, q2, hF⟩ := vB2_some hF
  refine ed_csI (As := [.int x2, .int 0, .int 7]) (rest := []) B hP hD hS hA (C_Mod_is l D ad ca x2 0 7 σ r3 σ1  q2) me_Mod_is st_Mod_is L_Mod_157 ⟨rfl, rfl⟩ ⟨Nat.le_of_ble_eq_true rfl, Nat.le_of_ble_eq_true rfl⟩ rfl rfl hl.1 (lv_room (Nat.le_of_ble_eq_true rfl)) d_Mod_thread_36 (fun H locs hP hD hS => ?_)
  refine lv_if_ne (tgt := 44) hx hb d_Mod_thread_39 (by decide) (fun c4 => ?_) (fun c4 => ?_)
  · have hF := vIf c4 hF
    refine lv_aload_n hx hb d_Mod_thread_44 rfl (lv_at hl 0 rfl) ?_
    refine gf_Mod_threads B hP (by decide) L_Mod_144 d_Mod_thread_45 ?_
    refine lv_bipush (v := 8) hx hb d_Mod_thread_48 (by decide) ?_
    refine lv_icmp_ne (tgt := 56) hx hb d_Mod_thread_50 (by decide) (fun c5 => ?_) (fun c5 => ?_)
    · have hF := vIf c5 hF
      refine lv_aload_n hx hb d_Mod_thread_56 rfl (lv_at hl 0 rfl) ?_
      refine lv_dup hx hb d_Mod_thread_57 rfl ?_
      refine gf_Mod_threads B hP (by decide) L_Mod_144 d_Mod_thread_58 ?_
      refine lv_dup_x1 hx hb d_Mod_thread_61 rfl rfl ?_
      refine lv_iconst (v := 1) hx hb d_Mod_thread_62 (by decide) ?_
      refine lv_iadd hx hb d_Mod_thread_63 ?_
      obtain ⟨σ6, e7, hF⟩ := vL_some hF
      refine pf_Mod_threads B hP hD hS (by decide) e7 L_Mod_144 d_Mod_thread_64 (fun H locs hP hD hS => ?_)
      refine lv_istore_n (lv' := [(3, .int (σ1 43 0 0)), (0, .ref (ad (pMod 0))), (1, .int x1), (2, .int x2)]) hx hb d_Mod_thread_67 rfl hl (by decide) rfl (fun ls hl => ?_)
      refine lv_aload_n hx hb d_Mod_thread_68 rfl (lv_at hl 1 rfl) ?_
      refine gf_Mod_home B hP (by decide) L_Mod_25 d_Mod_thread_69 ?_
      refine lv_iload_n hx hb d_Mod_thread_72 rfl (lv_at hl 0 rfl) ?_
      refine lv_iload_n hx hb d_Mod_thread_73 rfl (lv_at hl 2 rfl) ?_
      obtain ⟨j8, ej9, hj10, hn11, hF⟩ := vG_some hF
      obtain ⟨σ12, e13, hF⟩ := vL_some hF
      refine is_Mhome B hP hD hS (by decide) hn11 ej9 e13 d_Mod_thread_74 (fun H locs hP hD hS => ?_)
      refine lv_aload_n hx hb d_Mod_thread_75 rfl (lv_at hl 1 rfl) ?_
      refine gf_Mod_priority B hP (by decide) L_Mod_28 d_Mod_thread_76 ?_
      refine lv_iload_n hx hb d_Mod_thread_79 rfl (lv_at hl 0 rfl) ?_
      refine lv_iload_n hx hb d_Mod_thread_80 rfl (lv_at hl 3 rfl) ?_
      obtain ⟨j14, ej15, hj16, hn17, hF⟩ := vG_some hF
      obtain ⟨σ18, e19, hF⟩ := vL_some hF
      refine is_Mpriority B hP hD hS (by decide) hn17 ej15 e19 d_Mod_thread_81 (fun H locs hP hD hS => ?_)
      refine lv_aload_n hx hb d_Mod_thread_82 rfl (lv_at hl 1 rfl) ?_
      refine gf_Mod_result B hP (by decide) L_Mod_34 d_Mod_thread_83 ?_
      refine lv_iload_n hx hb d_Mod_thread_86 rfl (lv_at hl 0 rfl) ?_
      refine lv_bipush (v := (-10)) hx hb d_Mod_thread_87 (by decide) ?_
      obtain ⟨j20, ej21, hj22, hn23, hF⟩ := vG_some hF
      obtain ⟨σ24, e25, hF⟩ := vL_some hF
      refine is_Mresult B hP hD hS (by decide) hn23 ej21 e25 d_Mod_thread_89 (fun H locs hP hD hS => ?_)
      refine lv_aload_n hx hb d_Mod_thread_90 rfl (lv_at hl 1 rfl) ?_
      refine gf_Mod_due B hP (by decide) L_Mod_49 d_Mod_thread_91 ?_
      refine lv_iload_n hx hb d_Mod_thread_94 rfl (lv_at hl 0 rfl) ?_
      refine lv_iconst (v := (-1)) hx hb d_Mod_thread_95 (by decide) ?_
      obtain ⟨j26, ej27, hj28, hn29, hF⟩ := vG_some hF
      obtain ⟨σ30, e31, hF⟩ := vL_some hF
      refine is_Mdue B hP hD hS (by decide) hn29 ej27 e31 d_Mod_thread_96 (fun H locs hP hD hS => ?_)
      refine lv_aload_n hx hb d_Mod_thread_97 rfl (lv_at hl 1 rfl) ?_
      refine gf_Mod_had B hP (by decide) L_Mod_16 d_Mod_thread_98 ?_
      refine lv_iload_n hx hb d_Mod_thread_101 rfl (lv_at hl 2 rfl) ?_
      refine lv_dup2_11 hx hb d_Mod_thread_102 rfl rfl ?_
      obtain ⟨j32, ej33, hj34, hn35, hF⟩ := vG_some hF
      refine il_Mhad B hP (by decide) hn35 ej33 d_Mod_thread_103 ?_
      refine lv_iconst (v := 1) hx hb d_Mod_thread_104 (by decide) ?_
      refine lv_iadd hx hb d_Mod_thread_105 ?_
      obtain ⟨j36, ej37, hj38, hn39, hF⟩ := vG_some hF
      obtain ⟨σ40, e41, hF⟩ := vL_some hF
      refine is_Mhad B hP hD hS (by decide) hn39 ej37 e41 d_Mod_thread_106 (fun H locs hP hD hS => ?_)
      refine lv_aload_n hx hb d_Mod_thread_107 rfl (lv_at hl 1 rfl) ?_
      refine gf_Mod_alive B hP (by decide) L_Mod_13 d_Mod_thread_108 ?_
      refine lv_iload_n hx hb d_Mod_thread_111 rfl (lv_at hl 2 rfl) ?_
      refine lv_dup2_11 hx hb d_Mod_thread_112 rfl rfl ?_
      obtain ⟨j42, ej43, hj44, hn45, hF⟩ := vG_some hF
      refine il_Malive B hP (by decide) hn45 ej43 d_Mod_thread_113 ?_
      refine lv_iconst (v := 1) hx hb d_Mod_thread_114 (by decide) ?_
      refine lv_iadd hx hb d_Mod_thread_115 ?_
      obtain ⟨j46, ej47, hj48, hn49, hF⟩ := vG_some hF
      obtain ⟨σ50, e51, hF⟩ := vL_some hF
      refine is_Malive B hP hD hS (by decide) hn49 ej47 e51 d_Mod_thread_116 (fun H locs hP hD hS => ?_)
      refine lv_aload_n hx hb d_Mod_thread_117 rfl (lv_at hl 1 rfl) ?_
      refine lv_iload_n hx hb d_Mod_thread_118 rfl (lv_at hl 0 rfl) ?_
      obtain ⟨σ52, q53, hF⟩ := vB1_some hF
      refine ed_cvV (As := [.int (σ1 43 0 0)]) (rest := []) B hP hD hS hA (C_Mod_ready l D ad ca (σ1 43 0 0) σ50 σ52  q53) me_Mod_ready mv_Mod_ready L_Mod_164 (ed_rc_Mod B hP (by decide)) ⟨rfl, rfl⟩ ⟨Nat.le_of_ble_eq_true rfl, Nat.le_of_ble_eq_true rfl⟩ rfl rfl hl.1 (lv_room (Nat.le_of_ble_eq_true rfl)) d_Mod_thread_119 (fun H locs hP hD hS => ?_)
      refine lv_aload_n hx hb d_Mod_thread_122 rfl (lv_at hl 1 rfl) ?_
      refine lv_iload_n hx hb d_Mod_thread_123 rfl (lv_at hl 0 rfl) ?_
      obtain ⟨r56, σ54, q55, hF⟩ := vB2_some hF
      refine ed_cvI (As := [.int (σ1 43 0 0)]) (rest := []) B hP hD hS hA (C_Mod_end l D ad ca (σ1 43 0 0) σ52 r56 σ54  q55) me_Mod_end mv_Mod_end L_Mod_168 (ed_rc_Mod B hP (by decide)) ⟨rfl, rfl⟩ ⟨Nat.le_of_ble_eq_true rfl, Nat.le_of_ble_eq_true rfl⟩ rfl rfl hl.1 (lv_room (Nat.le_of_ble_eq_true rfl)) d_Mod_thread_124 (fun H locs hP hD hS => ?_)
      exact ed_rI B hr hA hP hD hS (vP hF) d_Mod_thread_127
    · have hF := vIt c5 hF
      refine lv_bipush (v := (-2)) hx hb d_Mod_thread_53 (by decide) ?_
      exact ed_rI B hr hA hP hD hS (vP hF) d_Mod_thread_55
  · have hF := vIt c4 hF
    refine lv_iconst (v := (-1)) hx hb d_Mod_thread_42 (by decide) ?_
    exact ed_rI B hr hA hP hD hS (vP hF) d_Mod_thread_43
set_option maxHeartbeats 4000000 in
set_option maxRecDepth 100000 in
theorem T_Mod_thread {r : Int32} {σ' : ed_S} (B : ed_B p s m args meth c prog_10_method_12_code "ExecutiveDeskModel" 4 D ca) (hr : meth.sig.returnType = (some .int)) (hA : ∀ q : Nat, s.heap.size ≤ q → A q) : ∀ (x1 : Int32) (x2 : Int32) (σ : ed_S), F_Mod_thread  x1 x2 σ = some (r, σ') → ed_G p l e rm_Mod_thread s m args below meth c D ca (md_w ad ca) A (ed_QI D ca (md_w ad ca) A below args s r σ') 4 0 [(0, .ref (ad (pMod 0))), (1, .int x1), (2, .int x2)] [] σ := by
  have hx := B.1
  have hb := B.2.1
  intro x1 x2 σ  hF H locs ls hP hD hS hl
  have hF : (vB2 (F_Mod_is x1 0 ((σ 42 0 0) - 1) σ) fun r3 σ1 => (if r3 = 0 then (some ((-1), σ1)) else (vG x1 4 fun j5 => (if (σ1 2 0 j5) ≤ 0 then (F_Mod_thread_32  x1 x2 σ1) else (vG x1 4 fun j10 => (if (σ1 1 0 j10) = 0 then (some ((-1), σ1)) else (F_Mod_thread_32  x1 x2 σ1))))))) = some (r, σ') := hF
  refine lv_iload_n hx hb d_Mod_thread_0 rfl (lv_at hl 1 rfl) ?_
  refine lv_iconst (v := 0) hx hb d_Mod_thread_1 (by decide) ?_
  refine lv_aload_n hx hb d_Mod_thread_2 rfl (lv_at hl 0 rfl) ?_
  refine gf_Mod_processes B hP (by decide) L_Mod_161 d_Mod_thread_3 ?_
  refine lv_iconst (v := 1) hx hb d_Mod_thread_6 (by decide) ?_
  refine lv_isub hx hb d_Mod_thread_7 ?_
  obtain ⟨r3, σ1, q2, hF⟩ := vB2_some hF
  refine ed_csI (As := [.int x1, .int 0, .int ((σ 42 0 0) - 1)]) (rest := []) B hP hD hS hA (C_Mod_is l D ad ca x1 0 ((σ 42 0 0) - 1) σ r3 σ1  q2) me_Mod_is st_Mod_is L_Mod_157 ⟨rfl, rfl⟩ ⟨Nat.le_of_ble_eq_true rfl, Nat.le_of_ble_eq_true rfl⟩ rfl rfl hl.1 (lv_room (Nat.le_of_ble_eq_true rfl)) d_Mod_thread_8 (fun H locs hP hD hS => ?_)
  refine lv_if_eq (tgt := 42) hx hb d_Mod_thread_11 (by decide) (fun c4 => ?_) (fun c4 => ?_)
  · have hF := vIt c4 hF
    refine lv_iconst (v := (-1)) hx hb d_Mod_thread_42 (by decide) ?_
    exact ed_rI B hr hA hP hD hS (vP hF) d_Mod_thread_43
  · have hF := vIf c4 hF
    refine lv_aload_n hx hb d_Mod_thread_14 rfl (lv_at hl 0 rfl) ?_
    refine gf_Mod_had B hP (by decide) L_Mod_16 d_Mod_thread_15 ?_
    refine lv_iload_n hx hb d_Mod_thread_18 rfl (lv_at hl 1 rfl) ?_
    obtain ⟨j5, ej6, hj7, hn8, hF⟩ := vG_some hF
    refine il_Mhad B hP (by decide) hn8 ej6 d_Mod_thread_19 ?_
    refine lv_if_le (tgt := 32) hx hb d_Mod_thread_20 (by decide) (fun c9 => ?_) (fun c9 => ?_)
    · have hF := vIt c9 hF
      exact T_Mod_thread_32 B hr hA  x1 x2 σ1  hF _ _ _ hP hD hS (lv_sub hl [0, 1, 2] rfl)
    · have hF := vIf c9 hF
      refine lv_aload_n hx hb d_Mod_thread_23 rfl (lv_at hl 0 rfl) ?_
      refine gf_Mod_alive B hP (by decide) L_Mod_13 d_Mod_thread_24 ?_
      refine lv_iload_n hx hb d_Mod_thread_27 rfl (lv_at hl 1 rfl) ?_
      obtain ⟨j10, ej11, hj12, hn13, hF⟩ := vG_some hF
      refine il_Malive B hP (by decide) hn13 ej11 d_Mod_thread_28 ?_
      refine lv_if_eq (tgt := 42) hx hb d_Mod_thread_29 (by decide) (fun c14 => ?_) (fun c14 => ?_)
      · have hF := vIt c14 hF
        refine lv_iconst (v := (-1)) hx hb d_Mod_thread_42 (by decide) ?_
        exact ed_rI B hr hA hP hD hS (vP hF) d_Mod_thread_43
      · have hF := vIf c14 hF
        exact T_Mod_thread_32 B hr hA  x1 x2 σ1  hF _ _ _ hP hD hS (lv_sub hl [0, 1, 2] rfl)
set_option maxHeartbeats 4000000 in
set_option maxRecDepth 100000 in
theorem C_Mod_thread (l : Launch) (D : va_G) (ad : Nat → Nat) (ca : Nat → ClassId) (x1 : Int32) (x2 : Int32) (σ : ed_S) (r : Int32) (σ' : ed_S) (hF : F_Mod_thread x1 x2 σ = some (r, σ')) : ed_MI l y_Mod_thread ws_Mod_thread rm_Mod_thread D ca (md_w ad ca) [.ref (ad (pMod 0)), .int x1, .int x2] σ r σ' := by
  refine ed_metI (cc := prog_10_method_12_code) (own := "ExecutiveDeskModel") (nL := 4) (ret := (some .int)) (by decide) rfl rfl (Nat.le_of_ble_eq_true rfl) ?_
  intro p e s m args below meth c A B hr hA
  exact T_Mod_thread B hr hA x1 x2 σ  hF
abbrev ws_Mod_isSignaled : List Cond := Cond.code y_Mod_isSignaled prog_10_method_18_code 3 (some .boolean) :: ed_tb
abbrev rm_Mod_isSignaled : Room := { frames := 0, cells := 0, slots := 0, locals := 0 }
def F_Mod_isSignaled (x1 : Int32) (x2 : Int32) (σ : ed_S) : Option (Int32 × ed_S) := (vG x1 16 fun j1 => (if (σ 22 0 j1) = 3 then (vG x1 16 fun j31 => (if (σ 24 0 j31) ≤ 0 then (some (0, σ)) else (some (1, σ)))) else (vG x1 16 fun j6 => (if (σ 22 0 j6) = 2 then (vG x1 16 fun j16 => (if (σ 25 0 j16) < 0 then (some (1, σ)) else (vG x1 16 fun j21 => (if (σ 25 0 j21) = x2 then (vG x1 16 fun j26 => (if 9 ≤ (σ 24 0 j26) then (some (0, σ)) else (some (1, σ)))) else (some (0, σ)))))) else (vG x1 16 fun j11 => (vC ((σ 20 0 j11) = 0 ∨ (σ 20 0 j11) = 1) (some ((σ 20 0 j11), σ))))))))
set_option maxHeartbeats 4000000 in
set_option maxRecDepth 100000 in
theorem T_Mod_isSignaled {r : Int32} {σ' : ed_S} (B : ed_B p s m args meth c prog_10_method_18_code "ExecutiveDeskModel" 3 D ca) (hr : meth.sig.returnType = (some .boolean)) (hA : ∀ q : Nat, s.heap.size ≤ q → A q) : ∀ (x1 : Int32) (x2 : Int32) (σ : ed_S), F_Mod_isSignaled  x1 x2 σ = some (r, σ') → ed_G p l e rm_Mod_isSignaled s m args below meth c D ca (md_w ad ca) A (ed_QI D ca (md_w ad ca) A below args s r σ') 3 0 [(0, .ref (ad (pMod 0))), (1, .int x1), (2, .int x2)] [] σ := by
  have hx := B.1
  have hb := B.2.1
  intro x1 x2 σ  hF H locs ls hP hD hS hl
  have hF : (vG x1 16 fun j1 => (if (σ 22 0 j1) = 3 then (vG x1 16 fun j31 => (if (σ 24 0 j31) ≤ 0 then (some (0, σ)) else (some (1, σ)))) else (vG x1 16 fun j6 => (if (σ 22 0 j6) = 2 then (vG x1 16 fun j16 => (if (σ 25 0 j16) < 0 then (some (1, σ)) else (vG x1 16 fun j21 => (if (σ 25 0 j21) = x2 then (vG x1 16 fun j26 => (if 9 ≤ (σ 24 0 j26) then (some (0, σ)) else (some (1, σ)))) else (some (0, σ)))))) else (vG x1 16 fun j11 => (vC ((σ 20 0 j11) = 0 ∨ (σ 20 0 j11) = 1) (some ((σ 20 0 j11), σ)))))))) = some (r, σ') := hF
  refine lv_aload_n hx hb d_Mod_isSignaled_0 rfl (lv_at hl 0 rfl) ?_
  refine gf_Mod_type B hP (by decide) L_Mod_77 d_Mod_isSignaled_1 ?_
  refine lv_iload_n hx hb d_Mod_isSignaled_4 rfl (lv_at hl 1 rfl) ?_
  obtain ⟨j1, ej2, hj3, hn4, hF⟩ := vG_some hF
  refine il_Mtype B hP (by decide) hn4 ej2 d_Mod_isSignaled_5 ?_
  refine lv_iconst (v := 3) hx hb d_Mod_isSignaled_6 (by decide) ?_
  refine lv_icmp_ne (tgt := 25) hx hb d_Mod_isSignaled_7 (by decide) (fun c5 => ?_) (fun c5 => ?_)
  · have hF := vIf c5 hF
    refine lv_aload_n hx hb d_Mod_isSignaled_25 rfl (lv_at hl 0 rfl) ?_
    refine gf_Mod_type B hP (by decide) L_Mod_77 d_Mod_isSignaled_26 ?_
    refine lv_iload_n hx hb d_Mod_isSignaled_29 rfl (lv_at hl 1 rfl) ?_
    obtain ⟨j6, ej7, hj8, hn9, hF⟩ := vG_some hF
    refine il_Mtype B hP (by decide) hn9 ej7 d_Mod_isSignaled_30 ?_
    refine lv_iconst (v := 2) hx hb d_Mod_isSignaled_31 (by decide) ?_
    refine lv_icmp_ne (tgt := 71) hx hb d_Mod_isSignaled_32 (by decide) (fun c10 => ?_) (fun c10 => ?_)
    · have hF := vIf c10 hF
      refine lv_aload_n hx hb d_Mod_isSignaled_71 rfl (lv_at hl 0 rfl) ?_
      refine gf_Mod_isSet B hP (by decide) L_Mod_71 d_Mod_isSignaled_72 ?_
      refine lv_iload_n hx hb d_Mod_isSignaled_75 rfl (lv_at hl 1 rfl) ?_
      obtain ⟨j11, ej12, hj13, hn14, hF⟩ := vG_some hF
      refine il_MisSet B hP (by decide) hn14 ej12 d_Mod_isSignaled_76 ?_
      obtain ⟨z15, hF⟩ := vC_some hF
      exact ed_rZ B hr hA hP hD hS z15 (vP hF) d_Mod_isSignaled_77
    · have hF := vIt c10 hF
      refine lv_aload_n hx hb d_Mod_isSignaled_35 rfl (lv_at hl 0 rfl) ?_
      refine gf_Mod_owner B hP (by decide) L_Mod_86 d_Mod_isSignaled_36 ?_
      refine lv_iload_n hx hb d_Mod_isSignaled_39 rfl (lv_at hl 1 rfl) ?_
      obtain ⟨j16, ej17, hj18, hn19, hF⟩ := vG_some hF
      refine il_Mowner B hP (by decide) hn19 ej17 d_Mod_isSignaled_40 ?_
      refine lv_if_lt (tgt := 65) hx hb d_Mod_isSignaled_41 (by decide) (fun c20 => ?_) (fun c20 => ?_)
      · have hF := vIt c20 hF
        refine lv_iconst (v := 1) hx hb d_Mod_isSignaled_65 (by decide) ?_
        refine lv_goto (tgt := 70) hx hb d_Mod_isSignaled_66 (by decide) ?_
        exact ed_rZ B hr hA hP hD hS (by decide) (vP hF) d_Mod_isSignaled_70
      · have hF := vIf c20 hF
        refine lv_aload_n hx hb d_Mod_isSignaled_44 rfl (lv_at hl 0 rfl) ?_
        refine gf_Mod_owner B hP (by decide) L_Mod_86 d_Mod_isSignaled_45 ?_
        refine lv_iload_n hx hb d_Mod_isSignaled_48 rfl (lv_at hl 1 rfl) ?_
        obtain ⟨j21, ej22, hj23, hn24, hF⟩ := vG_some hF
        refine il_Mowner B hP (by decide) hn24 ej22 d_Mod_isSignaled_49 ?_
        refine lv_iload_n hx hb d_Mod_isSignaled_50 rfl (lv_at hl 2 rfl) ?_
        refine lv_icmp_ne (tgt := 69) hx hb d_Mod_isSignaled_51 (by decide) (fun c25 => ?_) (fun c25 => ?_)
        · have hF := vIf c25 hF
          refine lv_iconst (v := 0) hx hb d_Mod_isSignaled_69 (by decide) ?_
          exact ed_rZ B hr hA hP hD hS (by decide) (vP hF) d_Mod_isSignaled_70
        · have hF := vIt c25 hF
          refine lv_aload_n hx hb d_Mod_isSignaled_54 rfl (lv_at hl 0 rfl) ?_
          refine gf_Mod_count B hP (by decide) L_Mod_83 d_Mod_isSignaled_55 ?_
          refine lv_iload_n hx hb d_Mod_isSignaled_58 rfl (lv_at hl 1 rfl) ?_
          obtain ⟨j26, ej27, hj28, hn29, hF⟩ := vG_some hF
          refine il_Mcount B hP (by decide) hn29 ej27 d_Mod_isSignaled_59 ?_
          refine lv_bipush (v := 9) hx hb d_Mod_isSignaled_60 (by decide) ?_
          refine lv_icmp_ge (tgt := 69) hx hb d_Mod_isSignaled_62 (by decide) (fun c30 => ?_) (fun c30 => ?_)
          · have hF := vIt c30 hF
            refine lv_iconst (v := 0) hx hb d_Mod_isSignaled_69 (by decide) ?_
            exact ed_rZ B hr hA hP hD hS (by decide) (vP hF) d_Mod_isSignaled_70
          · have hF := vIf c30 hF
            refine lv_iconst (v := 1) hx hb d_Mod_isSignaled_65 (by decide) ?_
            refine lv_goto (tgt := 70) hx hb d_Mod_isSignaled_66 (by decide) ?_
            exact ed_rZ B hr hA hP hD hS (by decide) (vP hF) d_Mod_isSignaled_70
  · have hF := vIt c5 hF
    refine lv_aload_n hx hb d_Mod_isSignaled_10 rfl (lv_at hl 0 rfl) ?_
    refine gf_Mod_count B hP (by decide) L_Mod_83 d_Mod_isSignaled_11 ?_
    refine lv_iload_n hx hb d_Mod_isSignaled_14 rfl (lv_at hl 1 rfl) ?_
    obtain ⟨j31, ej32, hj33, hn34, hF⟩ := vG_some hF
    refine il_Mcount B hP (by decide) hn34 ej32 d_Mod_isSignaled_15 ?_
    refine lv_if_le (tgt := 23) hx hb d_Mod_isSignaled_16 (by decide) (fun c35 => ?_) (fun c35 => ?_)
    · have hF := vIt c35 hF
      refine lv_iconst (v := 0) hx hb d_Mod_isSignaled_23 (by decide) ?_
      exact ed_rZ B hr hA hP hD hS (by decide) (vP hF) d_Mod_isSignaled_24
    · have hF := vIf c35 hF
      refine lv_iconst (v := 1) hx hb d_Mod_isSignaled_19 (by decide) ?_
      refine lv_goto (tgt := 24) hx hb d_Mod_isSignaled_20 (by decide) ?_
      exact ed_rZ B hr hA hP hD hS (by decide) (vP hF) d_Mod_isSignaled_24
set_option maxHeartbeats 4000000 in
set_option maxRecDepth 100000 in
theorem C_Mod_isSignaled (l : Launch) (D : va_G) (ad : Nat → Nat) (ca : Nat → ClassId) (x1 : Int32) (x2 : Int32) (σ : ed_S) (r : Int32) (σ' : ed_S) (hF : F_Mod_isSignaled x1 x2 σ = some (r, σ')) : ed_MI l y_Mod_isSignaled ws_Mod_isSignaled rm_Mod_isSignaled D ca (md_w ad ca) [.ref (ad (pMod 0)), .int x1, .int x2] σ r σ' := by
  refine ed_metI (cc := prog_10_method_18_code) (own := "ExecutiveDeskModel") (nL := 3) (ret := (some .boolean)) (by decide) rfl rfl (Nat.le_of_ble_eq_true rfl) ?_
  intro p e s m args below meth c A B hr hA
  exact T_Mod_isSignaled B hr hA x1 x2 σ  hF
abbrev ws_Mod_take : List Cond := Cond.code y_Mod_take prog_10_method_19_code 4 (some .int) :: ed_tb
abbrev rm_Mod_take : Room := { frames := 0, cells := 0, slots := 0, locals := 0 }
def F_Mod_take_37 (x1 : Int32) (x2 : Int32) (σ : ed_S) : Option (Int32 × ed_S) := (vG x1 16 fun j1 => (if (σ 22 0 j1) = 2 then (vG x1 16 fun j6 => (vG x1 16 fun j10 => vL (ed_st σ 21 0 j10 0) fun σ14 => (vG x1 16 fun j16 => vL (ed_st σ14 25 0 j16 x2) fun σ20 => (vG x1 16 fun j22 => (vG x1 16 fun j26 => vL (ed_st σ20 24 0 j26 ((σ20 24 0 j22) + 1)) fun σ30 => (if (σ 21 0 j6) = 0 then (some (0, σ30)) else (some (16, σ30)))))))) else (some (0, σ))))
def F_Mod_take (x1 : Int32) (x2 : Int32) (σ : ed_S) : Option (Int32 × ed_S) := (vG x1 16 fun j1 => (if (σ 22 0 j1) = 1 then (vG x1 16 fun j21 => vL (ed_st σ 20 0 j21 0) fun σ25 => (vG x1 16 fun j27 => (if (σ25 22 0 j27) = 3 then (vG x1 16 fun j32 => (vG x1 16 fun j36 => vL (ed_st σ25 24 0 j36 ((σ25 24 0 j32) - 1)) fun σ40 => (F_Mod_take_37  x1 x2 σ40))) else (F_Mod_take_37  x1 x2 σ25)))) else (vG x1 16 fun j6 => (if (σ 22 0 j6) = 3 then (vG x1 16 fun j11 => (vG x1 16 fun j15 => vL (ed_st σ 24 0 j15 ((σ 24 0 j11) - 1)) fun σ19 => (F_Mod_take_37  x1 x2 σ19))) else (F_Mod_take_37  x1 x2 σ)))))
set_option maxHeartbeats 4000000 in
set_option maxRecDepth 100000 in
theorem T_Mod_take_37 {r : Int32} {σ' : ed_S} (B : ed_B p s m args meth c prog_10_method_19_code "ExecutiveDeskModel" 4 D ca) (hr : meth.sig.returnType = (some .int)) (hA : ∀ q : Nat, s.heap.size ≤ q → A q) : ∀ (x1 : Int32) (x2 : Int32) (σ : ed_S), F_Mod_take_37  x1 x2 σ = some (r, σ') → ed_G p l e rm_Mod_take s m args below meth c D ca (md_w ad ca) A (ed_QI D ca (md_w ad ca) A below args s r σ') 4 37 [(0, .ref (ad (pMod 0))), (1, .int x1), (2, .int x2)] [] σ := by
  have hx := B.1
  have hb := B.2.1
  intro x1 x2 σ  hF H locs ls hP hD hS hl
  have hF : (vG x1 16 fun j1 => (if (σ 22 0 j1) = 2 then (vG x1 16 fun j6 => (vG x1 16 fun j10 => vL (ed_st σ 21 0 j10 0) fun σ14 => (vG x1 16 fun j16 => vL (ed_st σ14 25 0 j16 x2) fun σ20 => (vG x1 16 fun j22 => (vG x1 16 fun j26 => vL (ed_st σ20 24 0 j26 ((σ20 24 0 j22) + 1)) fun σ30 => (if (σ 21 0 j6) = 0 then (some (0, σ30)) else (some (16, σ30)))))))) else (some (0, σ)))) = some (r, σ') := hF
  refine lv_aload_n hx hb d_Mod_take_37 rfl (lv_at hl 0 rfl) ?_
  refine gf_Mod_type B hP (by decide) L_Mod_77 d_Mod_take_38 ?_
  refine lv_iload_n hx hb d_Mod_take_41 rfl (lv_at hl 1 rfl) ?_
  obtain ⟨j1, ej2, hj3, hn4, hF⟩ := vG_some hF
  refine il_Mtype B hP (by decide) hn4 ej2 d_Mod_take_42 ?_
  refine lv_iconst (v := 2) hx hb d_Mod_take_43 (by decide) ?_
  refine lv_icmp_eq (tgt := 49) hx hb d_Mod_take_44 (by decide) (fun c5 => ?_) (fun c5 => ?_)
  · have hF := vIt c5 hF
    refine lv_aload_n hx hb d_Mod_take_49 rfl (lv_at hl 0 rfl) ?_
    refine gf_Mod_abandoned B hP (by decide) L_Mod_74 d_Mod_take_50 ?_
    refine lv_iload_n hx hb d_Mod_take_53 rfl (lv_at hl 1 rfl) ?_
    obtain ⟨j6, ej7, hj8, hn9, hF⟩ := vG_some hF
    refine il_Mabandoned B hP (by decide) hn9 ej7 d_Mod_take_54 ?_
    refine lv_istore_n (lv' := [(3, .int (σ 21 0 j6)), (0, .ref (ad (pMod 0))), (1, .int x1), (2, .int x2)]) hx hb d_Mod_take_55 rfl hl (by decide) rfl (fun ls hl => ?_)
    refine lv_aload_n hx hb d_Mod_take_56 rfl (lv_at hl 1 rfl) ?_
    refine gf_Mod_abandoned B hP (by decide) L_Mod_74 d_Mod_take_57 ?_
    refine lv_iload_n hx hb d_Mod_take_60 rfl (lv_at hl 2 rfl) ?_
    refine lv_iconst (v := 0) hx hb d_Mod_take_61 (by decide) ?_
    obtain ⟨j10, ej11, hj12, hn13, hF⟩ := vG_some hF
    obtain ⟨σ14, e15, hF⟩ := vL_some hF
    refine is_Mabandoned B hP hD hS (by decide) hn13 ej11 (by decide) e15 d_Mod_take_62 (fun H locs hP hD hS => ?_)
    refine lv_aload_n hx hb d_Mod_take_63 rfl (lv_at hl 1 rfl) ?_
    refine gf_Mod_owner B hP (by decide) L_Mod_86 d_Mod_take_64 ?_
    refine lv_iload_n hx hb d_Mod_take_67 rfl (lv_at hl 2 rfl) ?_
    refine lv_iload_n hx hb d_Mod_take_68 rfl (lv_at hl 3 rfl) ?_
    obtain ⟨j16, ej17, hj18, hn19, hF⟩ := vG_some hF
    obtain ⟨σ20, e21, hF⟩ := vL_some hF
    refine is_Mowner B hP hD hS (by decide) hn19 ej17 e21 d_Mod_take_69 (fun H locs hP hD hS => ?_)
    refine lv_aload_n hx hb d_Mod_take_70 rfl (lv_at hl 1 rfl) ?_
    refine gf_Mod_count B hP (by decide) L_Mod_83 d_Mod_take_71 ?_
    refine lv_iload_n hx hb d_Mod_take_74 rfl (lv_at hl 2 rfl) ?_
    refine lv_dup2_11 hx hb d_Mod_take_75 rfl rfl ?_
    obtain ⟨j22, ej23, hj24, hn25, hF⟩ := vG_some hF
    refine il_Mcount B hP (by decide) hn25 ej23 d_Mod_take_76 ?_
    refine lv_iconst (v := 1) hx hb d_Mod_take_77 (by decide) ?_
    refine lv_iadd hx hb d_Mod_take_78 ?_
    obtain ⟨j26, ej27, hj28, hn29, hF⟩ := vG_some hF
    obtain ⟨σ30, e31, hF⟩ := vL_some hF
    refine is_Mcount B hP hD hS (by decide) hn29 ej27 e31 d_Mod_take_79 (fun H locs hP hD hS => ?_)
    refine lv_iload_n hx hb d_Mod_take_80 rfl (lv_at hl 0 rfl) ?_
    refine lv_if_eq (tgt := 89) hx hb d_Mod_take_81 (by decide) (fun c32 => ?_) (fun c32 => ?_)
    · have hF := vIt c32 hF
      refine lv_iconst (v := 0) hx hb d_Mod_take_89 (by decide) ?_
      exact ed_rI B hr hA hP hD hS (vP hF) d_Mod_take_90
    · have hF := vIf c32 hF
      refine lv_bipush (v := 16) hx hb d_Mod_take_84 (by decide) ?_
      refine lv_goto (tgt := 90) hx hb d_Mod_take_86 (by decide) ?_
      exact ed_rI B hr hA hP hD hS (vP hF) d_Mod_take_90
  · have hF := vIf c5 hF
    refine lv_iconst (v := 0) hx hb d_Mod_take_47 (by decide) ?_
    exact ed_rI B hr hA hP hD hS (vP hF) d_Mod_take_48
set_option maxHeartbeats 4000000 in
set_option maxRecDepth 100000 in
theorem T_Mod_take {r : Int32} {σ' : ed_S} (B : ed_B p s m args meth c prog_10_method_19_code "ExecutiveDeskModel" 4 D ca) (hr : meth.sig.returnType = (some .int)) (hA : ∀ q : Nat, s.heap.size ≤ q → A q) : ∀ (x1 : Int32) (x2 : Int32) (σ : ed_S), F_Mod_take  x1 x2 σ = some (r, σ') → ed_G p l e rm_Mod_take s m args below meth c D ca (md_w ad ca) A (ed_QI D ca (md_w ad ca) A below args s r σ') 4 0 [(0, .ref (ad (pMod 0))), (1, .int x1), (2, .int x2)] [] σ := by
  have hx := B.1
  have hb := B.2.1
  intro x1 x2 σ  hF H locs ls hP hD hS hl
  have hF : (vG x1 16 fun j1 => (if (σ 22 0 j1) = 1 then (vG x1 16 fun j21 => vL (ed_st σ 20 0 j21 0) fun σ25 => (vG x1 16 fun j27 => (if (σ25 22 0 j27) = 3 then (vG x1 16 fun j32 => (vG x1 16 fun j36 => vL (ed_st σ25 24 0 j36 ((σ25 24 0 j32) - 1)) fun σ40 => (F_Mod_take_37  x1 x2 σ40))) else (F_Mod_take_37  x1 x2 σ25)))) else (vG x1 16 fun j6 => (if (σ 22 0 j6) = 3 then (vG x1 16 fun j11 => (vG x1 16 fun j15 => vL (ed_st σ 24 0 j15 ((σ 24 0 j11) - 1)) fun σ19 => (F_Mod_take_37  x1 x2 σ19))) else (F_Mod_take_37  x1 x2 σ))))) = some (r, σ') := hF
  refine lv_aload_n hx hb d_Mod_take_0 rfl (lv_at hl 0 rfl) ?_
  refine gf_Mod_type B hP (by decide) L_Mod_77 d_Mod_take_1 ?_
  refine lv_iload_n hx hb d_Mod_take_4 rfl (lv_at hl 1 rfl) ?_
  obtain ⟨j1, ej2, hj3, hn4, hF⟩ := vG_some hF
  refine il_Mtype B hP (by decide) hn4 ej2 d_Mod_take_5 ?_
  refine lv_iconst (v := 1) hx hb d_Mod_take_6 (by decide) ?_
  refine lv_icmp_ne (tgt := 17) hx hb d_Mod_take_7 (by decide) (fun c5 => ?_) (fun c5 => ?_)
  · have hF := vIf c5 hF
    refine lv_aload_n hx hb d_Mod_take_17 rfl (lv_at hl 0 rfl) ?_
    refine gf_Mod_type B hP (by decide) L_Mod_77 d_Mod_take_18 ?_
    refine lv_iload_n hx hb d_Mod_take_21 rfl (lv_at hl 1 rfl) ?_
    obtain ⟨j6, ej7, hj8, hn9, hF⟩ := vG_some hF
    refine il_Mtype B hP (by decide) hn9 ej7 d_Mod_take_22 ?_
    refine lv_iconst (v := 3) hx hb d_Mod_take_23 (by decide) ?_
    refine lv_icmp_ne (tgt := 37) hx hb d_Mod_take_24 (by decide) (fun c10 => ?_) (fun c10 => ?_)
    · have hF := vIf c10 hF
      exact T_Mod_take_37 B hr hA  x1 x2 σ  hF _ _ _ hP hD hS (lv_sub hl [0, 1, 2] rfl)
    · have hF := vIt c10 hF
      refine lv_aload_n hx hb d_Mod_take_27 rfl (lv_at hl 0 rfl) ?_
      refine gf_Mod_count B hP (by decide) L_Mod_83 d_Mod_take_28 ?_
      refine lv_iload_n hx hb d_Mod_take_31 rfl (lv_at hl 1 rfl) ?_
      refine lv_dup2_11 hx hb d_Mod_take_32 rfl rfl ?_
      obtain ⟨j11, ej12, hj13, hn14, hF⟩ := vG_some hF
      refine il_Mcount B hP (by decide) hn14 ej12 d_Mod_take_33 ?_
      refine lv_iconst (v := 1) hx hb d_Mod_take_34 (by decide) ?_
      refine lv_isub hx hb d_Mod_take_35 ?_
      obtain ⟨j15, ej16, hj17, hn18, hF⟩ := vG_some hF
      obtain ⟨σ19, e20, hF⟩ := vL_some hF
      refine is_Mcount B hP hD hS (by decide) hn18 ej16 e20 d_Mod_take_36 (fun H locs hP hD hS => ?_)
      exact T_Mod_take_37 B hr hA  x1 x2 σ19  hF _ _ _ hP hD hS (lv_sub hl [0, 1, 2] rfl)
  · have hF := vIt c5 hF
    refine lv_aload_n hx hb d_Mod_take_10 rfl (lv_at hl 0 rfl) ?_
    refine gf_Mod_isSet B hP (by decide) L_Mod_71 d_Mod_take_11 ?_
    refine lv_iload_n hx hb d_Mod_take_14 rfl (lv_at hl 1 rfl) ?_
    refine lv_iconst (v := 0) hx hb d_Mod_take_15 (by decide) ?_
    obtain ⟨j21, ej22, hj23, hn24, hF⟩ := vG_some hF
    obtain ⟨σ25, e26, hF⟩ := vL_some hF
    refine is_MisSet B hP hD hS (by decide) hn24 ej22 (by decide) e26 d_Mod_take_16 (fun H locs hP hD hS => ?_)
    refine lv_aload_n hx hb d_Mod_take_17 rfl (lv_at hl 0 rfl) ?_
    refine gf_Mod_type B hP (by decide) L_Mod_77 d_Mod_take_18 ?_
    refine lv_iload_n hx hb d_Mod_take_21 rfl (lv_at hl 1 rfl) ?_
    obtain ⟨j27, ej28, hj29, hn30, hF⟩ := vG_some hF
    refine il_Mtype B hP (by decide) hn30 ej28 d_Mod_take_22 ?_
    refine lv_iconst (v := 3) hx hb d_Mod_take_23 (by decide) ?_
    refine lv_icmp_ne (tgt := 37) hx hb d_Mod_take_24 (by decide) (fun c31 => ?_) (fun c31 => ?_)
    · have hF := vIf c31 hF
      exact T_Mod_take_37 B hr hA  x1 x2 σ25  hF _ _ _ hP hD hS (lv_sub hl [0, 1, 2] rfl)
    · have hF := vIt c31 hF
      refine lv_aload_n hx hb d_Mod_take_27 rfl (lv_at hl 0 rfl) ?_
      refine gf_Mod_count B hP (by decide) L_Mod_83 d_Mod_take_28 ?_
      refine lv_iload_n hx hb d_Mod_take_31 rfl (lv_at hl 1 rfl) ?_
      refine lv_dup2_11 hx hb d_Mod_take_32 rfl rfl ?_
      obtain ⟨j32, ej33, hj34, hn35, hF⟩ := vG_some hF
      refine il_Mcount B hP (by decide) hn35 ej33 d_Mod_take_33 ?_
      refine lv_iconst (v := 1) hx hb d_Mod_take_34 (by decide) ?_
      refine lv_isub hx hb d_Mod_take_35 ?_
      obtain ⟨j36, ej37, hj38, hn39, hF⟩ := vG_some hF
      obtain ⟨σ40, e41, hF⟩ := vL_some hF
      refine is_Mcount B hP hD hS (by decide) hn39 ej37 e41 d_Mod_take_36 (fun H locs hP hD hS => ?_)
      exact T_Mod_take_37 B hr hA  x1 x2 σ40  hF _ _ _ hP hD hS (lv_sub hl [0, 1, 2] rfl)
set_option maxHeartbeats 4000000 in
set_option maxRecDepth 100000 in
theorem C_Mod_take (l : Launch) (D : va_G) (ad : Nat → Nat) (ca : Nat → ClassId) (x1 : Int32) (x2 : Int32) (σ : ed_S) (r : Int32) (σ' : ed_S) (hF : F_Mod_take x1 x2 σ = some (r, σ')) : ed_MI l y_Mod_take ws_Mod_take rm_Mod_take D ca (md_w ad ca) [.ref (ad (pMod 0)), .int x1, .int x2] σ r σ' := by
  refine ed_metI (cc := prog_10_method_19_code) (own := "ExecutiveDeskModel") (nL := 4) (ret := (some .int)) (by decide) rfl rfl (Nat.le_of_ble_eq_true rfl) ?_
  intro p e s m args below meth c A B hr hA
  exact T_Mod_take B hr hA x1 x2 σ  hF
end EDT
