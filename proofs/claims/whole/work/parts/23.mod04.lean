section EDT
variable {p : Program} {l : Launch} {e : Env} {s : State} {m : MethodId} {args : Array Value} {below : List Frame} {meth : Method} {c : Code} {D : va_G} {ad : Nat → Nat} {ca : Nat → ClassId} {A : Nat → Prop}
abbrev ws_Mod_rule : List Cond := Cond.code y_Mod_rule prog_10_method_32_code 7 (some .int) :: ed_tb
abbrev rm_Mod_rule : Room := { frames := 2, cells := 0, slots := 0, locals := 43 }
def F_Mod_rule (x1 : Int32) (x2 : Int32) (x3 : Int32) (x4 : Int32) (σ : ed_S) : Option (Int32 × ed_S) := (if 0 ≤ (σ 44 0 0) then (vB2 (F_Mod_isHandle x1 σ) fun r4 σ2 => (if r4 = 0 then (some ((-1), σ2)) else (vB2 (F_Mod_is x2 0 1 σ2) fun r8 σ6 => (if r8 = 0 then (some ((-1), σ6)) else (vB2 (F_Mod_is x3 0 7 σ6) fun r12 σ10 => (if r12 = 0 then (some ((-1), σ10)) else (vB2 (F_Mod_is x4 1 7 σ10) fun r16 σ14 => (if r16 = 0 then (some ((-1), σ14)) else (vB2 (F_Mod_lacks x1 2 σ14) fun r20 σ18 => (if r20 = 0 then (vB2 (F_Mod_objectOf x1 σ18) fun r24 σ22 => (vG r24 16 fun j25 => (if (σ22 27 0 j25) = 4 then (some ((-2), σ22)) else (vG r24 16 fun j30 => (vG r24 16 fun j34 => vL (ed_st σ22 27 0 j34 ((σ22 27 0 j30) + 1)) fun σ38 => (vG ((4 * r24) + (σ22 27 0 j30)) 64 fun j40 => vL (ed_st σ38 28 0 j40 x2) fun σ44 => (vG ((4 * r24) + (σ22 27 0 j30)) 64 fun j46 => vL (ed_st σ44 29 0 j46 x3) fun σ50 => (vG ((4 * r24) + (σ22 27 0 j30)) 64 fun j52 => vL (ed_st σ50 30 0 j52 x4) fun σ56 => (vG r24 16 fun j58 => (some ((σ56 27 0 j58), σ56))))))))))) else (some ((-5), σ18)))))))))))) else (some ((-3), σ)))
set_option maxHeartbeats 4000000 in
set_option maxRecDepth 100000 in
theorem T_Mod_rule {r : Int32} {σ' : ed_S} (B : ed_B p s m args meth c prog_10_method_32_code "ExecutiveDeskModel" 7 D ca) (hr : meth.sig.returnType = (some .int)) (hA : ∀ q : Nat, s.heap.size ≤ q → A q) : ∀ (x1 : Int32) (x2 : Int32) (x3 : Int32) (x4 : Int32) (σ : ed_S), F_Mod_rule  x1 x2 x3 x4 σ = some (r, σ') → ed_G p l e rm_Mod_rule s m args below meth c D ca (md_w ad ca) A (ed_QI D ca (md_w ad ca) A below args s r σ') 7 0 [(0, .ref (ad (pMod 0))), (1, .int x1), (2, .int x2), (3, .int x3), (4, .int x4)] [] σ := by
  have hx := B.1
  have hb := B.2.1
  intro x1 x2 x3 x4 σ  hF H locs ls hP hD hS hl
  have hF : (if 0 ≤ (σ 44 0 0) then (vB2 (F_Mod_isHandle x1 σ) fun r4 σ2 => (if r4 = 0 then (some ((-1), σ2)) else (vB2 (F_Mod_is x2 0 1 σ2) fun r8 σ6 => (if r8 = 0 then (some ((-1), σ6)) else (vB2 (F_Mod_is x3 0 7 σ6) fun r12 σ10 => (if r12 = 0 then (some ((-1), σ10)) else (vB2 (F_Mod_is x4 1 7 σ10) fun r16 σ14 => (if r16 = 0 then (some ((-1), σ14)) else (vB2 (F_Mod_lacks x1 2 σ14) fun r20 σ18 => (if r20 = 0 then (vB2 (F_Mod_objectOf x1 σ18) fun r24 σ22 => (vG r24 16 fun j25 => (if (σ22 27 0 j25) = 4 then (some ((-2), σ22)) else (vG r24 16 fun j30 => (vG r24 16 fun j34 => vL (ed_st σ22 27 0 j34 ((σ22 27 0 j30) + 1)) fun σ38 => (vG ((4 * r24) + (σ22 27 0 j30)) 64 fun j40 => vL (ed_st σ38 28 0 j40 x2) fun σ44 => (vG ((4 * r24) + (σ22 27 0 j30)) 64 fun j46 => vL (ed_st σ44 29 0 j46 x3) fun σ50 => (vG ((4 * r24) + (σ22 27 0 j30)) 64 fun j52 => vL (ed_st σ50 30 0 j52 x4) fun σ56 => (vG r24 16 fun j58 => (some ((σ56 27 0 j58), σ56))))))))))) else (some ((-5), σ18)))))))))))) else (some ((-3), σ))) = some (r, σ') := hF
  refine lv_aload_n hx hb d_Mod_rule_0 rfl (lv_at hl 0 rfl) ?_
  refine gf_Mod_running B hP (by decide) L_Mod_137 d_Mod_rule_1 ?_
  refine lv_if_ge (tgt := 10) hx hb d_Mod_rule_4 (by decide) (fun c1 => ?_) (fun c1 => ?_)
  · have hF := vIt c1 hF
    refine lv_aload_n hx hb d_Mod_rule_10 rfl (lv_at hl 0 rfl) ?_
    refine lv_iload_n hx hb d_Mod_rule_11 rfl (lv_at hl 1 rfl) ?_
    obtain ⟨r4, σ2, q3, hF⟩ := vB2_some hF
    refine ed_cvI (As := [.int x1]) (rest := []) B hP hD hS hA (C_Mod_isHandle l D ad ca x1 σ r4 σ2  q3) me_Mod_isHandle mv_Mod_isHandle L_Mod_220 (ed_rc_Mod B hP (by decide)) ⟨rfl, rfl⟩ ⟨Nat.le_of_ble_eq_true rfl, Nat.le_of_ble_eq_true rfl⟩ rfl rfl hl.1 (lv_room (Nat.le_of_ble_eq_true rfl)) d_Mod_rule_12 (fun H locs hP hD hS => ?_)
    refine lv_if_eq (tgt := 48) hx hb d_Mod_rule_15 (by decide) (fun c5 => ?_) (fun c5 => ?_)
    · have hF := vIt c5 hF
      refine lv_iconst (v := (-1)) hx hb d_Mod_rule_48 (by decide) ?_
      exact ed_rI B hr hA hP hD hS (vP hF) d_Mod_rule_49
    · have hF := vIf c5 hF
      refine lv_iload_n hx hb d_Mod_rule_18 rfl (lv_at hl 2 rfl) ?_
      refine lv_iconst (v := 0) hx hb d_Mod_rule_19 (by decide) ?_
      refine lv_iconst (v := 1) hx hb d_Mod_rule_20 (by decide) ?_
      obtain ⟨r8, σ6, q7, hF⟩ := vB2_some hF
      refine ed_csI (As := [.int x2, .int 0, .int 1]) (rest := []) B hP hD hS hA (C_Mod_is l D ad ca x2 0 1 σ2 r8 σ6  q7) me_Mod_is st_Mod_is L_Mod_157 ⟨rfl, rfl⟩ ⟨Nat.le_of_ble_eq_true rfl, Nat.le_of_ble_eq_true rfl⟩ rfl rfl hl.1 (lv_room (Nat.le_of_ble_eq_true rfl)) d_Mod_rule_21 (fun H locs hP hD hS => ?_)
      refine lv_if_eq (tgt := 48) hx hb d_Mod_rule_24 (by decide) (fun c9 => ?_) (fun c9 => ?_)
      · have hF := vIt c9 hF
        refine lv_iconst (v := (-1)) hx hb d_Mod_rule_48 (by decide) ?_
        exact ed_rI B hr hA hP hD hS (vP hF) d_Mod_rule_49
      · have hF := vIf c9 hF
        refine lv_iload_n hx hb d_Mod_rule_27 rfl (lv_at hl 3 rfl) ?_
        refine lv_iconst (v := 0) hx hb d_Mod_rule_28 (by decide) ?_
        refine lv_bipush (v := 7) hx hb d_Mod_rule_29 (by decide) ?_
        obtain ⟨r12, σ10, q11, hF⟩ := vB2_some hF
        refine ed_csI (As := [.int x3, .int 0, .int 7]) (rest := []) B hP hD hS hA (C_Mod_is l D ad ca x3 0 7 σ6 r12 σ10  q11) me_Mod_is st_Mod_is L_Mod_157 ⟨rfl, rfl⟩ ⟨Nat.le_of_ble_eq_true rfl, Nat.le_of_ble_eq_true rfl⟩ rfl rfl hl.1 (lv_room (Nat.le_of_ble_eq_true rfl)) d_Mod_rule_31 (fun H locs hP hD hS => ?_)
        refine lv_if_eq (tgt := 48) hx hb d_Mod_rule_34 (by decide) (fun c13 => ?_) (fun c13 => ?_)
        · have hF := vIt c13 hF
          refine lv_iconst (v := (-1)) hx hb d_Mod_rule_48 (by decide) ?_
          exact ed_rI B hr hA hP hD hS (vP hF) d_Mod_rule_49
        · have hF := vIf c13 hF
          refine lv_iload hx hb d_Mod_rule_37 (lv_at hl 4 rfl) ?_
          refine lv_iconst (v := 1) hx hb d_Mod_rule_39 (by decide) ?_
          refine lv_bipush (v := 7) hx hb d_Mod_rule_40 (by decide) ?_
          obtain ⟨r16, σ14, q15, hF⟩ := vB2_some hF
          refine ed_csI (As := [.int x4, .int 1, .int 7]) (rest := []) B hP hD hS hA (C_Mod_is l D ad ca x4 1 7 σ10 r16 σ14  q15) me_Mod_is st_Mod_is L_Mod_157 ⟨rfl, rfl⟩ ⟨Nat.le_of_ble_eq_true rfl, Nat.le_of_ble_eq_true rfl⟩ rfl rfl hl.1 (lv_room (Nat.le_of_ble_eq_true rfl)) d_Mod_rule_42 (fun H locs hP hD hS => ?_)
          refine lv_if_ne (tgt := 50) hx hb d_Mod_rule_45 (by decide) (fun c17 => ?_) (fun c17 => ?_)
          · have hF := vIf c17 hF
            refine lv_aload_n hx hb d_Mod_rule_50 rfl (lv_at hl 0 rfl) ?_
            refine lv_iload_n hx hb d_Mod_rule_51 rfl (lv_at hl 1 rfl) ?_
            refine lv_iconst (v := 2) hx hb d_Mod_rule_52 (by decide) ?_
            obtain ⟨r20, σ18, q19, hF⟩ := vB2_some hF
            refine ed_cvI (As := [.int x1, .int 2]) (rest := []) B hP hD hS hA (C_Mod_lacks l D ad ca x1 2 σ14 r20 σ18  q19) me_Mod_lacks mv_Mod_lacks L_Mod_227 (ed_rc_Mod B hP (by decide)) ⟨rfl, rfl⟩ ⟨Nat.le_of_ble_eq_true rfl, Nat.le_of_ble_eq_true rfl⟩ rfl rfl hl.1 (lv_room (Nat.le_of_ble_eq_true rfl)) d_Mod_rule_53 (fun H locs hP hD hS => ?_)
            refine lv_if_eq (tgt := 62) hx hb d_Mod_rule_56 (by decide) (fun c21 => ?_) (fun c21 => ?_)
            · have hF := vIt c21 hF
              refine lv_aload_n hx hb d_Mod_rule_62 rfl (lv_at hl 0 rfl) ?_
              refine lv_iload_n hx hb d_Mod_rule_63 rfl (lv_at hl 1 rfl) ?_
              obtain ⟨r24, σ22, q23, hF⟩ := vB2_some hF
              refine ed_cvI (As := [.int x1]) (rest := []) B hP hD hS hA (C_Mod_objectOf l D ad ca x1 σ18 r24 σ22  q23) me_Mod_objectOf mv_Mod_objectOf L_Mod_224 (ed_rc_Mod B hP (by decide)) ⟨rfl, rfl⟩ ⟨Nat.le_of_ble_eq_true rfl, Nat.le_of_ble_eq_true rfl⟩ rfl rfl hl.1 (lv_room (Nat.le_of_ble_eq_true rfl)) d_Mod_rule_64 (fun H locs hP hD hS => ?_)
              refine lv_istore (lv' := [(5, .int r24), (0, .ref (ad (pMod 0))), (1, .int x1), (2, .int x2), (3, .int x3), (4, .int x4)]) hx hb d_Mod_rule_67 hl (by decide) rfl (fun ls hl => ?_)
              refine lv_aload_n hx hb d_Mod_rule_69 rfl (lv_at hl 1 rfl) ?_
              refine gf_Mod_rules B hP (by decide) L_Mod_92 d_Mod_rule_70 ?_
              refine lv_iload hx hb d_Mod_rule_73 (lv_at hl 0 rfl) ?_
              obtain ⟨j25, ej26, hj27, hn28, hF⟩ := vG_some hF
              refine il_Mrules B hP (by decide) hn28 ej26 d_Mod_rule_75 ?_
              refine lv_iconst (v := 4) hx hb d_Mod_rule_76 (by decide) ?_
              refine lv_icmp_ne (tgt := 83) hx hb d_Mod_rule_77 (by decide) (fun c29 => ?_) (fun c29 => ?_)
              · have hF := vIf c29 hF
                refine lv_iconst (v := 4) hx hb d_Mod_rule_83 (by decide) ?_
                refine lv_iload hx hb d_Mod_rule_84 (lv_at hl 0 rfl) ?_
                refine lv_imul hx hb d_Mod_rule_86 ?_
                refine lv_aload_n hx hb d_Mod_rule_87 rfl (lv_at hl 1 rfl) ?_
                refine gf_Mod_rules B hP (by decide) L_Mod_92 d_Mod_rule_88 ?_
                refine lv_iload hx hb d_Mod_rule_91 (lv_at hl 0 rfl) ?_
                refine lv_dup2_11 hx hb d_Mod_rule_93 rfl rfl ?_
                obtain ⟨j30, ej31, hj32, hn33, hF⟩ := vG_some hF
                refine il_Mrules B hP (by decide) hn33 ej31 d_Mod_rule_94 ?_
                refine lv_dup_x2 hx hb d_Mod_rule_95 rfl rfl rfl ?_
                refine lv_iconst (v := 1) hx hb d_Mod_rule_96 (by decide) ?_
                refine lv_iadd hx hb d_Mod_rule_97 ?_
                obtain ⟨j34, ej35, hj36, hn37, hF⟩ := vG_some hF
                obtain ⟨σ38, e39, hF⟩ := vL_some hF
                refine is_Mrules B hP hD hS (by decide) hn37 ej35 e39 d_Mod_rule_98 (fun H locs hP hD hS => ?_)
                refine lv_iadd hx hb d_Mod_rule_99 ?_
                refine lv_istore (lv' := [(6, .int ((4 * r24) + (σ22 27 0 j30))), (5, .int r24), (0, .ref (ad (pMod 0))), (1, .int x1), (2, .int x2), (3, .int x3), (4, .int x4)]) hx hb d_Mod_rule_100 hl (by decide) rfl (fun ls hl => ?_)
                refine lv_aload_n hx hb d_Mod_rule_102 rfl (lv_at hl 2 rfl) ?_
                refine gf_Mod_ruleKind B hP (by decide) L_Mod_95 d_Mod_rule_103 ?_
                refine lv_iload hx hb d_Mod_rule_106 (lv_at hl 0 rfl) ?_
                refine lv_iload_n hx hb d_Mod_rule_108 rfl (lv_at hl 4 rfl) ?_
                obtain ⟨j40, ej41, hj42, hn43, hF⟩ := vG_some hF
                obtain ⟨σ44, e45, hF⟩ := vL_some hF
                refine is_MruleKind B hP hD hS (by decide) hn43 ej41 e45 d_Mod_rule_109 (fun H locs hP hD hS => ?_)
                refine lv_aload_n hx hb d_Mod_rule_110 rfl (lv_at hl 2 rfl) ?_
                refine gf_Mod_ruleGroup B hP (by decide) L_Mod_98 d_Mod_rule_111 ?_
                refine lv_iload hx hb d_Mod_rule_114 (lv_at hl 0 rfl) ?_
                refine lv_iload_n hx hb d_Mod_rule_116 rfl (lv_at hl 5 rfl) ?_
                obtain ⟨j46, ej47, hj48, hn49, hF⟩ := vG_some hF
                obtain ⟨σ50, e51, hF⟩ := vL_some hF
                refine is_MruleGroup B hP hD hS (by decide) hn49 ej47 e51 d_Mod_rule_117 (fun H locs hP hD hS => ?_)
                refine lv_aload_n hx hb d_Mod_rule_118 rfl (lv_at hl 2 rfl) ?_
                refine gf_Mod_ruleRights B hP (by decide) L_Mod_101 d_Mod_rule_119 ?_
                refine lv_iload hx hb d_Mod_rule_122 (lv_at hl 0 rfl) ?_
                refine lv_iload hx hb d_Mod_rule_124 (lv_at hl 6 rfl) ?_
                obtain ⟨j52, ej53, hj54, hn55, hF⟩ := vG_some hF
                obtain ⟨σ56, e57, hF⟩ := vL_some hF
                refine is_MruleRights B hP hD hS (by decide) hn55 ej53 e57 d_Mod_rule_126 (fun H locs hP hD hS => ?_)
                refine lv_aload_n hx hb d_Mod_rule_127 rfl (lv_at hl 2 rfl) ?_
                refine gf_Mod_rules B hP (by decide) L_Mod_92 d_Mod_rule_128 ?_
                refine lv_iload hx hb d_Mod_rule_131 (lv_at hl 1 rfl) ?_
                obtain ⟨j58, ej59, hj60, hn61, hF⟩ := vG_some hF
                refine il_Mrules B hP (by decide) hn61 ej59 d_Mod_rule_133 ?_
                exact ed_rI B hr hA hP hD hS (vP hF) d_Mod_rule_134
              · have hF := vIt c29 hF
                refine lv_bipush (v := (-2)) hx hb d_Mod_rule_80 (by decide) ?_
                exact ed_rI B hr hA hP hD hS (vP hF) d_Mod_rule_82
            · have hF := vIf c21 hF
              refine lv_bipush (v := (-5)) hx hb d_Mod_rule_59 (by decide) ?_
              exact ed_rI B hr hA hP hD hS (vP hF) d_Mod_rule_61
          · have hF := vIt c17 hF
            refine lv_iconst (v := (-1)) hx hb d_Mod_rule_48 (by decide) ?_
            exact ed_rI B hr hA hP hD hS (vP hF) d_Mod_rule_49
  · have hF := vIf c1 hF
    refine lv_bipush (v := (-3)) hx hb d_Mod_rule_7 (by decide) ?_
    exact ed_rI B hr hA hP hD hS (vP hF) d_Mod_rule_9
set_option maxHeartbeats 4000000 in
set_option maxRecDepth 100000 in
theorem C_Mod_rule (l : Launch) (D : va_G) (ad : Nat → Nat) (ca : Nat → ClassId) (x1 : Int32) (x2 : Int32) (x3 : Int32) (x4 : Int32) (σ : ed_S) (r : Int32) (σ' : ed_S) (hF : F_Mod_rule x1 x2 x3 x4 σ = some (r, σ')) : ed_MI l y_Mod_rule ws_Mod_rule rm_Mod_rule D ca (md_w ad ca) [.ref (ad (pMod 0)), .int x1, .int x2, .int x3, .int x4] σ r σ' := by
  refine ed_metI (cc := prog_10_method_32_code) (own := "ExecutiveDeskModel") (nL := 7) (ret := (some .int)) (by decide) rfl rfl (Nat.le_of_ble_eq_true rfl) ?_
  intro p e s m args below meth c A B hr hA
  exact T_Mod_rule B hr hA x1 x2 x3 x4 σ  hF
abbrev ws_Mod_sett : List Cond := Cond.code y_Mod_sett prog_10_method_33_code 7 (some .int) :: ed_tb
abbrev rm_Mod_sett : Room := { frames := 3, cells := 0, slots := 0, locals := 72 }
def F_Mod_sett_176 (x1 : Int32) (x2 : Int32) (x3 : Int32) (x4 : Int32) (x5 : Int32) (x6 : Int32) (σ : ed_S) : Option (Int32 × ed_S) := (if 2 ≤ x4 then (if x4 = 3 then (vG x3 16 fun j54 => (vG x3 16 fun j58 => vL (ed_st σ 24 0 j58 ((σ 24 0 j54) + x2)) fun σ62 => (vB1 (F_Mod_release  σ62) fun σ64 => (vB2 (F_Mod_end x6 σ64) fun r68 σ66 => (some (r68, σ66)))))) else (if x4 = 4 then (vG x3 16 fun j29 => vL (ed_st σ 20 0 j29 0) fun σ33 => (if x2 = 0 then (vG x3 16 fun j45 => vL (ed_st σ33 26 0 j45 0) fun σ49 => (vB2 (F_Mod_end x5 σ49) fun r53 σ51 => (some (r53, σ51)))) else (vG x3 16 fun j36 => vL (ed_st σ33 26 0 j36 ((σ33 46 0 0) + x2)) fun σ40 => (vB2 (F_Mod_end x5 σ40) fun r44 σ42 => (some (r44, σ42)))))) else (vG x3 16 fun j4 => (vG x3 16 fun j8 => vL (ed_st σ 24 0 j8 ((σ 24 0 j4) - 1)) fun σ12 => (if x6 = 1 then (vG x3 16 fun j18 => vL (ed_st σ12 25 0 j18 (-1)) fun σ22 => (vB1 (F_Mod_release  σ22) fun σ24 => (vB2 (F_Mod_end (x6 - 1) σ24) fun r28 σ26 => (some (r28, σ26))))) else (vB2 (F_Mod_end (x6 - 1) σ12) fun r17 σ15 => (some (r17, σ15)))))))) else (if x2 = 1 then (vG x3 16 fun j85 => vL (ed_st σ 20 0 j85 1) fun σ89 => (if x2 = 1 then (vB1 (F_Mod_release  σ89) fun σ95 => (vB2 (F_Mod_end x5 σ95) fun r99 σ97 => (some (r99, σ97)))) else (vB2 (F_Mod_end x5 σ89) fun r94 σ92 => (some (r94, σ92))))) else (vG x3 16 fun j70 => vL (ed_st σ 20 0 j70 0) fun σ74 => (if x2 = 1 then (vB1 (F_Mod_release  σ74) fun σ80 => (vB2 (F_Mod_end x5 σ80) fun r84 σ82 => (some (r84, σ82)))) else (vB2 (F_Mod_end x5 σ74) fun r79 σ77 => (some (r79, σ77)))))))
def F_Mod_sett_124 (x1 : Int32) (x2 : Int32) (x3 : Int32) (x4 : Int32) (x5 : Int32) (x6 : Int32) (σ : ed_S) : Option (Int32 × ed_S) := (vB2 (F_Mod_lacks x1 2 σ) fun r3 σ1 => (if r3 = 0 then (if x4 = 3 then (if (x6 + x2) ≤ 9 then (if x4 = 2 then (vG x3 16 fun j14 => (if (σ1 25 0 j14) = (σ1 44 0 0) then (F_Mod_sett_176  x1 x2 x3 x4 x5 x6 σ1) else (some ((-9), σ1)))) else (F_Mod_sett_176  x1 x2 x3 x4 x5 x6 σ1)) else (some ((-8), σ1))) else (if x4 = 2 then (vG x3 16 fun j7 => (if (σ1 25 0 j7) = (σ1 44 0 0) then (F_Mod_sett_176  x1 x2 x3 x4 x5 x6 σ1) else (some ((-9), σ1)))) else (F_Mod_sett_176  x1 x2 x3 x4 x5 x6 σ1))) else (some ((-5), σ1))))
def F_Mod_sett_90 (x1 : Int32) (x2 : Int32) (x3 : Int32) (x4 : Int32) (x5 : Int32) (x6 : Int32) (σ : ed_S) : Option (Int32 × ed_S) := (if x4 = 3 then (vB2 (F_Mod_is x2 1 9 σ) fun r9 σ7 => (if r9 = 0 then (some ((-1), σ7)) else (if x4 = 4 then (vB2 (F_Mod_is x2 0 99 σ7) fun r14 σ12 => (if r14 = 0 then (some ((-1), σ12)) else (F_Mod_sett_124  x1 x2 x3 x4 x5 x6 σ12))) else (F_Mod_sett_124  x1 x2 x3 x4 x5 x6 σ7)))) else (if x4 = 4 then (vB2 (F_Mod_is x2 0 99 σ) fun r5 σ3 => (if r5 = 0 then (some ((-1), σ3)) else (F_Mod_sett_124  x1 x2 x3 x4 x5 x6 σ3))) else (F_Mod_sett_124  x1 x2 x3 x4 x5 x6 σ)))
def F_Mod_sett_48 (x1 : Int32) (x2 : Int32) (x3 : Int32) (x4 : Int32) (s0 : Int32) (σ : ed_S) : Option (Int32 × ed_S) := (vG x3 16 fun j1 => (if x4 = 5 then (some ((-1), σ)) else (if 2 ≤ x4 then (if x4 = 2 then (if x2 = 1 then (F_Mod_sett_90  x1 x2 x3 x4 s0 (σ 24 0 j1) σ) else (some ((-1), σ))) else (F_Mod_sett_90  x1 x2 x3 x4 s0 (σ 24 0 j1) σ)) else (vB2 (F_Mod_is x2 0 1 σ) fun r11 σ9 => (if r11 = 0 then (some ((-1), σ9)) else (if x4 = 2 then (if x2 = 1 then (F_Mod_sett_90  x1 x2 x3 x4 s0 (σ 24 0 j1) σ9) else (some ((-1), σ9))) else (F_Mod_sett_90  x1 x2 x3 x4 s0 (σ 24 0 j1) σ9)))))))
def F_Mod_sett (x1 : Int32) (x2 : Int32) (σ : ed_S) : Option (Int32 × ed_S) := (if 0 ≤ (σ 44 0 0) then (vB2 (F_Mod_isHandle x1 σ) fun r4 σ2 => (if r4 = 0 then (some ((-1), σ2)) else (vB2 (F_Mod_objectOf x1 σ2) fun r8 σ6 => (vG r8 16 fun j9 => (vG r8 16 fun j13 => (if (σ6 20 0 j13) = 0 then (F_Mod_sett_48  x1 x2 r8 (σ6 22 0 j9) 0 σ6) else (F_Mod_sett_48  x1 x2 r8 (σ6 22 0 j9) 1 σ6))))))) else (some ((-3), σ)))
set_option maxHeartbeats 4000000 in
set_option maxRecDepth 100000 in
theorem T_Mod_sett_176 {r : Int32} {σ' : ed_S} (B : ed_B p s m args meth c prog_10_method_33_code "ExecutiveDeskModel" 7 D ca) (hr : meth.sig.returnType = (some .int)) (hA : ∀ q : Nat, s.heap.size ≤ q → A q) : ∀ (x1 : Int32) (x2 : Int32) (x3 : Int32) (x4 : Int32) (x5 : Int32) (x6 : Int32) (σ : ed_S), F_Mod_sett_176  x1 x2 x3 x4 x5 x6 σ = some (r, σ') → ed_G p l e rm_Mod_sett s m args below meth c D ca (md_w ad ca) A (ed_QI D ca (md_w ad ca) A below args s r σ') 7 176 [(0, .ref (ad (pMod 0))), (1, .int x1), (2, .int x2), (3, .int x3), (4, .int x4), (5, .int x5), (6, .int x6)] [] σ := by
  have hx := B.1
  have hb := B.2.1
  intro x1 x2 x3 x4 x5 x6 σ  hF H locs ls hP hD hS hl
  have hF : (if 2 ≤ x4 then (if x4 = 3 then (vG x3 16 fun j54 => (vG x3 16 fun j58 => vL (ed_st σ 24 0 j58 ((σ 24 0 j54) + x2)) fun σ62 => (vB1 (F_Mod_release  σ62) fun σ64 => (vB2 (F_Mod_end x6 σ64) fun r68 σ66 => (some (r68, σ66)))))) else (if x4 = 4 then (vG x3 16 fun j29 => vL (ed_st σ 20 0 j29 0) fun σ33 => (if x2 = 0 then (vG x3 16 fun j45 => vL (ed_st σ33 26 0 j45 0) fun σ49 => (vB2 (F_Mod_end x5 σ49) fun r53 σ51 => (some (r53, σ51)))) else (vG x3 16 fun j36 => vL (ed_st σ33 26 0 j36 ((σ33 46 0 0) + x2)) fun σ40 => (vB2 (F_Mod_end x5 σ40) fun r44 σ42 => (some (r44, σ42)))))) else (vG x3 16 fun j4 => (vG x3 16 fun j8 => vL (ed_st σ 24 0 j8 ((σ 24 0 j4) - 1)) fun σ12 => (if x6 = 1 then (vG x3 16 fun j18 => vL (ed_st σ12 25 0 j18 (-1)) fun σ22 => (vB1 (F_Mod_release  σ22) fun σ24 => (vB2 (F_Mod_end (x6 - 1) σ24) fun r28 σ26 => (some (r28, σ26))))) else (vB2 (F_Mod_end (x6 - 1) σ12) fun r17 σ15 => (some (r17, σ15)))))))) else (if x2 = 1 then (vG x3 16 fun j85 => vL (ed_st σ 20 0 j85 1) fun σ89 => (if x2 = 1 then (vB1 (F_Mod_release  σ89) fun σ95 => (vB2 (F_Mod_end x5 σ95) fun r99 σ97 => (some (r99, σ97)))) else (vB2 (F_Mod_end x5 σ89) fun r94 σ92 => (some (r94, σ92))))) else (vG x3 16 fun j70 => vL (ed_st σ 20 0 j70 0) fun σ74 => (if x2 = 1 then (vB1 (F_Mod_release  σ74) fun σ80 => (vB2 (F_Mod_end x5 σ80) fun r84 σ82 => (some (r84, σ82)))) else (vB2 (F_Mod_end x5 σ74) fun r79 σ77 => (some (r79, σ77))))))) = some (r, σ') := hF
  refine lv_iload hx hb d_Mod_sett_176 (lv_at hl 4 rfl) ?_
  refine lv_iconst (v := 2) hx hb d_Mod_sett_178 (by decide) ?_
  refine lv_icmp_ge (tgt := 214) hx hb d_Mod_sett_179 (by decide) (fun c1 => ?_) (fun c1 => ?_)
  · have hF := vIt c1 hF
    refine lv_iload hx hb d_Mod_sett_214 (lv_at hl 4 rfl) ?_
    refine lv_iconst (v := 3) hx hb d_Mod_sett_216 (by decide) ?_
    refine lv_icmp_ne (tgt := 241) hx hb d_Mod_sett_217 (by decide) (fun c2 => ?_) (fun c2 => ?_)
    · have hF := vIf c2 hF
      refine lv_iload hx hb d_Mod_sett_241 (lv_at hl 4 rfl) ?_
      refine lv_iconst (v := 4) hx hb d_Mod_sett_243 (by decide) ?_
      refine lv_icmp_ne (tgt := 281) hx hb d_Mod_sett_244 (by decide) (fun c3 => ?_) (fun c3 => ?_)
      · have hF := vIf c3 hF
        refine lv_aload_n hx hb d_Mod_sett_281 rfl (lv_at hl 0 rfl) ?_
        refine gf_Mod_count B hP (by decide) L_Mod_83 d_Mod_sett_282 ?_
        refine lv_iload_n hx hb d_Mod_sett_285 rfl (lv_at hl 3 rfl) ?_
        refine lv_dup2_11 hx hb d_Mod_sett_286 rfl rfl ?_
        obtain ⟨j4, ej5, hj6, hn7, hF⟩ := vG_some hF
        refine il_Mcount B hP (by decide) hn7 ej5 d_Mod_sett_287 ?_
        refine lv_iconst (v := 1) hx hb d_Mod_sett_288 (by decide) ?_
        refine lv_isub hx hb d_Mod_sett_289 ?_
        obtain ⟨j8, ej9, hj10, hn11, hF⟩ := vG_some hF
        obtain ⟨σ12, e13, hF⟩ := vL_some hF
        refine is_Mcount B hP hD hS (by decide) hn11 ej9 e13 d_Mod_sett_290 (fun H locs hP hD hS => ?_)
        refine lv_iload hx hb d_Mod_sett_291 (lv_at hl 6 rfl) ?_
        refine lv_iconst (v := 1) hx hb d_Mod_sett_293 (by decide) ?_
        refine lv_icmp_ne (tgt := 308) hx hb d_Mod_sett_294 (by decide) (fun c14 => ?_) (fun c14 => ?_)
        · have hF := vIf c14 hF
          refine lv_aload_n hx hb d_Mod_sett_308 rfl (lv_at hl 0 rfl) ?_
          refine lv_iload hx hb d_Mod_sett_309 (lv_at hl 6 rfl) ?_
          refine lv_iconst (v := 1) hx hb d_Mod_sett_311 (by decide) ?_
          refine lv_isub hx hb d_Mod_sett_312 ?_
          obtain ⟨r17, σ15, q16, hF⟩ := vB2_some hF
          refine ed_cvI (As := [.int (x6 - 1)]) (rest := []) B hP hD hS hA (C_Mod_end l D ad ca (x6 - 1) σ12 r17 σ15  q16) me_Mod_end mv_Mod_end L_Mod_168 (ed_rc_Mod B hP (by decide)) ⟨rfl, rfl⟩ ⟨Nat.le_of_ble_eq_true rfl, Nat.le_of_ble_eq_true rfl⟩ rfl rfl hl.1 (lv_room (Nat.le_of_ble_eq_true rfl)) d_Mod_sett_313 (fun H locs hP hD hS => ?_)
          exact ed_rI B hr hA hP hD hS (vP hF) d_Mod_sett_316
        · have hF := vIt c14 hF
          refine lv_aload_n hx hb d_Mod_sett_297 rfl (lv_at hl 0 rfl) ?_
          refine gf_Mod_owner B hP (by decide) L_Mod_86 d_Mod_sett_298 ?_
          refine lv_iload_n hx hb d_Mod_sett_301 rfl (lv_at hl 3 rfl) ?_
          refine lv_iconst (v := (-1)) hx hb d_Mod_sett_302 (by decide) ?_
          obtain ⟨j18, ej19, hj20, hn21, hF⟩ := vG_some hF
          obtain ⟨σ22, e23, hF⟩ := vL_some hF
          refine is_Mowner B hP hD hS (by decide) hn21 ej19 e23 d_Mod_sett_303 (fun H locs hP hD hS => ?_)
          refine lv_aload_n hx hb d_Mod_sett_304 rfl (lv_at hl 0 rfl) ?_
          obtain ⟨σ24, q25, hF⟩ := vB1_some hF
          refine ed_cvV (As := []) (rest := []) B hP hD hS hA (C_Mod_release l D ad ca  σ22 σ24  q25) me_Mod_release mv_Mod_release L_Mod_214 (ed_rc_Mod B hP (by decide)) ⟨rfl, rfl⟩ ⟨Nat.le_of_ble_eq_true rfl, Nat.le_of_ble_eq_true rfl⟩ rfl rfl hl.1 (lv_room (Nat.le_of_ble_eq_true rfl)) d_Mod_sett_305 (fun H locs hP hD hS => ?_)
          refine lv_aload_n hx hb d_Mod_sett_308 rfl (lv_at hl 0 rfl) ?_
          refine lv_iload hx hb d_Mod_sett_309 (lv_at hl 6 rfl) ?_
          refine lv_iconst (v := 1) hx hb d_Mod_sett_311 (by decide) ?_
          refine lv_isub hx hb d_Mod_sett_312 ?_
          obtain ⟨r28, σ26, q27, hF⟩ := vB2_some hF
          refine ed_cvI (As := [.int (x6 - 1)]) (rest := []) B hP hD hS hA (C_Mod_end l D ad ca (x6 - 1) σ24 r28 σ26  q27) me_Mod_end mv_Mod_end L_Mod_168 (ed_rc_Mod B hP (by decide)) ⟨rfl, rfl⟩ ⟨Nat.le_of_ble_eq_true rfl, Nat.le_of_ble_eq_true rfl⟩ rfl rfl hl.1 (lv_room (Nat.le_of_ble_eq_true rfl)) d_Mod_sett_313 (fun H locs hP hD hS => ?_)
          exact ed_rI B hr hA hP hD hS (vP hF) d_Mod_sett_316
      · have hF := vIt c3 hF
        refine lv_aload_n hx hb d_Mod_sett_247 rfl (lv_at hl 0 rfl) ?_
        refine gf_Mod_isSet B hP (by decide) L_Mod_71 d_Mod_sett_248 ?_
        refine lv_iload_n hx hb d_Mod_sett_251 rfl (lv_at hl 3 rfl) ?_
        refine lv_iconst (v := 0) hx hb d_Mod_sett_252 (by decide) ?_
        obtain ⟨j29, ej30, hj31, hn32, hF⟩ := vG_some hF
        obtain ⟨σ33, e34, hF⟩ := vL_some hF
        refine is_MisSet B hP hD hS (by decide) hn32 ej30 (by decide) e34 d_Mod_sett_253 (fun H locs hP hD hS => ?_)
        refine lv_aload_n hx hb d_Mod_sett_254 rfl (lv_at hl 0 rfl) ?_
        refine gf_Mod_time B hP (by decide) L_Mod_89 d_Mod_sett_255 ?_
        refine lv_iload_n hx hb d_Mod_sett_258 rfl (lv_at hl 3 rfl) ?_
        refine lv_iload_n hx hb d_Mod_sett_259 rfl (lv_at hl 2 rfl) ?_
        refine lv_if_ne (tgt := 267) hx hb d_Mod_sett_260 (by decide) (fun c35 => ?_) (fun c35 => ?_)
        · have hF := vIf c35 hF
          refine lv_aload_n hx hb d_Mod_sett_267 rfl (lv_at hl 0 rfl) ?_
          refine gf_Mod_clock B hP (by decide) L_Mod_230 d_Mod_sett_268 ?_
          refine lv_iload_n hx hb d_Mod_sett_271 rfl (lv_at hl 2 rfl) ?_
          refine lv_iadd hx hb d_Mod_sett_272 ?_
          obtain ⟨j36, ej37, hj38, hn39, hF⟩ := vG_some hF
          obtain ⟨σ40, e41, hF⟩ := vL_some hF
          refine is_Mtime B hP hD hS (by decide) hn39 ej37 e41 d_Mod_sett_273 (fun H locs hP hD hS => ?_)
          refine lv_aload_n hx hb d_Mod_sett_274 rfl (lv_at hl 0 rfl) ?_
          refine lv_iload hx hb d_Mod_sett_275 (lv_at hl 5 rfl) ?_
          obtain ⟨r44, σ42, q43, hF⟩ := vB2_some hF
          refine ed_cvI (As := [.int x5]) (rest := []) B hP hD hS hA (C_Mod_end l D ad ca x5 σ40 r44 σ42  q43) me_Mod_end mv_Mod_end L_Mod_168 (ed_rc_Mod B hP (by decide)) ⟨rfl, rfl⟩ ⟨Nat.le_of_ble_eq_true rfl, Nat.le_of_ble_eq_true rfl⟩ rfl rfl hl.1 (lv_room (Nat.le_of_ble_eq_true rfl)) d_Mod_sett_277 (fun H locs hP hD hS => ?_)
          exact ed_rI B hr hA hP hD hS (vP hF) d_Mod_sett_280
        · have hF := vIt c35 hF
          refine lv_iconst (v := 0) hx hb d_Mod_sett_263 (by decide) ?_
          refine lv_goto (tgt := 273) hx hb d_Mod_sett_264 (by decide) ?_
          obtain ⟨j45, ej46, hj47, hn48, hF⟩ := vG_some hF
          obtain ⟨σ49, e50, hF⟩ := vL_some hF
          refine is_Mtime B hP hD hS (by decide) hn48 ej46 e50 d_Mod_sett_273 (fun H locs hP hD hS => ?_)
          refine lv_aload_n hx hb d_Mod_sett_274 rfl (lv_at hl 0 rfl) ?_
          refine lv_iload hx hb d_Mod_sett_275 (lv_at hl 5 rfl) ?_
          obtain ⟨r53, σ51, q52, hF⟩ := vB2_some hF
          refine ed_cvI (As := [.int x5]) (rest := []) B hP hD hS hA (C_Mod_end l D ad ca x5 σ49 r53 σ51  q52) me_Mod_end mv_Mod_end L_Mod_168 (ed_rc_Mod B hP (by decide)) ⟨rfl, rfl⟩ ⟨Nat.le_of_ble_eq_true rfl, Nat.le_of_ble_eq_true rfl⟩ rfl rfl hl.1 (lv_room (Nat.le_of_ble_eq_true rfl)) d_Mod_sett_277 (fun H locs hP hD hS => ?_)
          exact ed_rI B hr hA hP hD hS (vP hF) d_Mod_sett_280
    · have hF := vIt c2 hF
      refine lv_aload_n hx hb d_Mod_sett_220 rfl (lv_at hl 0 rfl) ?_
      refine gf_Mod_count B hP (by decide) L_Mod_83 d_Mod_sett_221 ?_
      refine lv_iload_n hx hb d_Mod_sett_224 rfl (lv_at hl 3 rfl) ?_
      refine lv_dup2_11 hx hb d_Mod_sett_225 rfl rfl ?_
      obtain ⟨j54, ej55, hj56, hn57, hF⟩ := vG_some hF
      refine il_Mcount B hP (by decide) hn57 ej55 d_Mod_sett_226 ?_
      refine lv_iload_n hx hb d_Mod_sett_227 rfl (lv_at hl 2 rfl) ?_
      refine lv_iadd hx hb d_Mod_sett_228 ?_
      obtain ⟨j58, ej59, hj60, hn61, hF⟩ := vG_some hF
      obtain ⟨σ62, e63, hF⟩ := vL_some hF
      refine is_Mcount B hP hD hS (by decide) hn61 ej59 e63 d_Mod_sett_229 (fun H locs hP hD hS => ?_)
      refine lv_aload_n hx hb d_Mod_sett_230 rfl (lv_at hl 0 rfl) ?_
      obtain ⟨σ64, q65, hF⟩ := vB1_some hF
      refine ed_cvV (As := []) (rest := []) B hP hD hS hA (C_Mod_release l D ad ca  σ62 σ64  q65) me_Mod_release mv_Mod_release L_Mod_214 (ed_rc_Mod B hP (by decide)) ⟨rfl, rfl⟩ ⟨Nat.le_of_ble_eq_true rfl, Nat.le_of_ble_eq_true rfl⟩ rfl rfl hl.1 (lv_room (Nat.le_of_ble_eq_true rfl)) d_Mod_sett_231 (fun H locs hP hD hS => ?_)
      refine lv_aload_n hx hb d_Mod_sett_234 rfl (lv_at hl 0 rfl) ?_
      refine lv_iload hx hb d_Mod_sett_235 (lv_at hl 6 rfl) ?_
      obtain ⟨r68, σ66, q67, hF⟩ := vB2_some hF
      refine ed_cvI (As := [.int x6]) (rest := []) B hP hD hS hA (C_Mod_end l D ad ca x6 σ64 r68 σ66  q67) me_Mod_end mv_Mod_end L_Mod_168 (ed_rc_Mod B hP (by decide)) ⟨rfl, rfl⟩ ⟨Nat.le_of_ble_eq_true rfl, Nat.le_of_ble_eq_true rfl⟩ rfl rfl hl.1 (lv_room (Nat.le_of_ble_eq_true rfl)) d_Mod_sett_237 (fun H locs hP hD hS => ?_)
      exact ed_rI B hr hA hP hD hS (vP hF) d_Mod_sett_240
  · have hF := vIf c1 hF
    refine lv_aload_n hx hb d_Mod_sett_182 rfl (lv_at hl 0 rfl) ?_
    refine gf_Mod_isSet B hP (by decide) L_Mod_71 d_Mod_sett_183 ?_
    refine lv_iload_n hx hb d_Mod_sett_186 rfl (lv_at hl 3 rfl) ?_
    refine lv_iload_n hx hb d_Mod_sett_187 rfl (lv_at hl 2 rfl) ?_
    refine lv_iconst (v := 1) hx hb d_Mod_sett_188 (by decide) ?_
    refine lv_icmp_ne (tgt := 196) hx hb d_Mod_sett_189 (by decide) (fun c69 => ?_) (fun c69 => ?_)
    · have hF := vIf c69 hF
      refine lv_iconst (v := 0) hx hb d_Mod_sett_196 (by decide) ?_
      obtain ⟨j70, ej71, hj72, hn73, hF⟩ := vG_some hF
      obtain ⟨σ74, e75, hF⟩ := vL_some hF
      refine is_MisSet B hP hD hS (by decide) hn73 ej71 (by decide) e75 d_Mod_sett_197 (fun H locs hP hD hS => ?_)
      refine lv_iload_n hx hb d_Mod_sett_198 rfl (lv_at hl 2 rfl) ?_
      refine lv_iconst (v := 1) hx hb d_Mod_sett_199 (by decide) ?_
      refine lv_icmp_ne (tgt := 207) hx hb d_Mod_sett_200 (by decide) (fun c76 => ?_) (fun c76 => ?_)
      · have hF := vIf c76 hF
        refine lv_aload_n hx hb d_Mod_sett_207 rfl (lv_at hl 0 rfl) ?_
        refine lv_iload hx hb d_Mod_sett_208 (lv_at hl 5 rfl) ?_
        obtain ⟨r79, σ77, q78, hF⟩ := vB2_some hF
        refine ed_cvI (As := [.int x5]) (rest := []) B hP hD hS hA (C_Mod_end l D ad ca x5 σ74 r79 σ77  q78) me_Mod_end mv_Mod_end L_Mod_168 (ed_rc_Mod B hP (by decide)) ⟨rfl, rfl⟩ ⟨Nat.le_of_ble_eq_true rfl, Nat.le_of_ble_eq_true rfl⟩ rfl rfl hl.1 (lv_room (Nat.le_of_ble_eq_true rfl)) d_Mod_sett_210 (fun H locs hP hD hS => ?_)
        exact ed_rI B hr hA hP hD hS (vP hF) d_Mod_sett_213
      · have hF := vIt c76 hF
        refine lv_aload_n hx hb d_Mod_sett_203 rfl (lv_at hl 0 rfl) ?_
        obtain ⟨σ80, q81, hF⟩ := vB1_some hF
        refine ed_cvV (As := []) (rest := []) B hP hD hS hA (C_Mod_release l D ad ca  σ74 σ80  q81) me_Mod_release mv_Mod_release L_Mod_214 (ed_rc_Mod B hP (by decide)) ⟨rfl, rfl⟩ ⟨Nat.le_of_ble_eq_true rfl, Nat.le_of_ble_eq_true rfl⟩ rfl rfl hl.1 (lv_room (Nat.le_of_ble_eq_true rfl)) d_Mod_sett_204 (fun H locs hP hD hS => ?_)
        refine lv_aload_n hx hb d_Mod_sett_207 rfl (lv_at hl 0 rfl) ?_
        refine lv_iload hx hb d_Mod_sett_208 (lv_at hl 5 rfl) ?_
        obtain ⟨r84, σ82, q83, hF⟩ := vB2_some hF
        refine ed_cvI (As := [.int x5]) (rest := []) B hP hD hS hA (C_Mod_end l D ad ca x5 σ80 r84 σ82  q83) me_Mod_end mv_Mod_end L_Mod_168 (ed_rc_Mod B hP (by decide)) ⟨rfl, rfl⟩ ⟨Nat.le_of_ble_eq_true rfl, Nat.le_of_ble_eq_true rfl⟩ rfl rfl hl.1 (lv_room (Nat.le_of_ble_eq_true rfl)) d_Mod_sett_210 (fun H locs hP hD hS => ?_)
        exact ed_rI B hr hA hP hD hS (vP hF) d_Mod_sett_213
    · have hF := vIt c69 hF
      refine lv_iconst (v := 1) hx hb d_Mod_sett_192 (by decide) ?_
      refine lv_goto (tgt := 197) hx hb d_Mod_sett_193 (by decide) ?_
      obtain ⟨j85, ej86, hj87, hn88, hF⟩ := vG_some hF
      obtain ⟨σ89, e90, hF⟩ := vL_some hF
      refine is_MisSet B hP hD hS (by decide) hn88 ej86 (by decide) e90 d_Mod_sett_197 (fun H locs hP hD hS => ?_)
      refine lv_iload_n hx hb d_Mod_sett_198 rfl (lv_at hl 2 rfl) ?_
      refine lv_iconst (v := 1) hx hb d_Mod_sett_199 (by decide) ?_
      refine lv_icmp_ne (tgt := 207) hx hb d_Mod_sett_200 (by decide) (fun c91 => ?_) (fun c91 => ?_)
      · have hF := vIf c91 hF
        refine lv_aload_n hx hb d_Mod_sett_207 rfl (lv_at hl 0 rfl) ?_
        refine lv_iload hx hb d_Mod_sett_208 (lv_at hl 5 rfl) ?_
        obtain ⟨r94, σ92, q93, hF⟩ := vB2_some hF
        refine ed_cvI (As := [.int x5]) (rest := []) B hP hD hS hA (C_Mod_end l D ad ca x5 σ89 r94 σ92  q93) me_Mod_end mv_Mod_end L_Mod_168 (ed_rc_Mod B hP (by decide)) ⟨rfl, rfl⟩ ⟨Nat.le_of_ble_eq_true rfl, Nat.le_of_ble_eq_true rfl⟩ rfl rfl hl.1 (lv_room (Nat.le_of_ble_eq_true rfl)) d_Mod_sett_210 (fun H locs hP hD hS => ?_)
        exact ed_rI B hr hA hP hD hS (vP hF) d_Mod_sett_213
      · have hF := vIt c91 hF
        refine lv_aload_n hx hb d_Mod_sett_203 rfl (lv_at hl 0 rfl) ?_
        obtain ⟨σ95, q96, hF⟩ := vB1_some hF
        refine ed_cvV (As := []) (rest := []) B hP hD hS hA (C_Mod_release l D ad ca  σ89 σ95  q96) me_Mod_release mv_Mod_release L_Mod_214 (ed_rc_Mod B hP (by decide)) ⟨rfl, rfl⟩ ⟨Nat.le_of_ble_eq_true rfl, Nat.le_of_ble_eq_true rfl⟩ rfl rfl hl.1 (lv_room (Nat.le_of_ble_eq_true rfl)) d_Mod_sett_204 (fun H locs hP hD hS => ?_)
        refine lv_aload_n hx hb d_Mod_sett_207 rfl (lv_at hl 0 rfl) ?_
        refine lv_iload hx hb d_Mod_sett_208 (lv_at hl 5 rfl) ?_
        obtain ⟨r99, σ97, q98, hF⟩ := vB2_some hF
        refine ed_cvI (As := [.int x5]) (rest := []) B hP hD hS hA (C_Mod_end l D ad ca x5 σ95 r99 σ97  q98) me_Mod_end mv_Mod_end L_Mod_168 (ed_rc_Mod B hP (by decide)) ⟨rfl, rfl⟩ ⟨Nat.le_of_ble_eq_true rfl, Nat.le_of_ble_eq_true rfl⟩ rfl rfl hl.1 (lv_room (Nat.le_of_ble_eq_true rfl)) d_Mod_sett_210 (fun H locs hP hD hS => ?_)
        exact ed_rI B hr hA hP hD hS (vP hF) d_Mod_sett_213
set_option maxHeartbeats 4000000 in
set_option maxRecDepth 100000 in
theorem T_Mod_sett_124 {r : Int32} {σ' : ed_S} (B : ed_B p s m args meth c prog_10_method_33_code "ExecutiveDeskModel" 7 D ca) (hr : meth.sig.returnType = (some .int)) (hA : ∀ q : Nat, s.heap.size ≤ q → A q) : ∀ (x1 : Int32) (x2 : Int32) (x3 : Int32) (x4 : Int32) (x5 : Int32) (x6 : Int32) (σ : ed_S), F_Mod_sett_124  x1 x2 x3 x4 x5 x6 σ = some (r, σ') → ed_G p l e rm_Mod_sett s m args below meth c D ca (md_w ad ca) A (ed_QI D ca (md_w ad ca) A below args s r σ') 7 124 [(0, .ref (ad (pMod 0))), (1, .int x1), (2, .int x2), (3, .int x3), (4, .int x4), (5, .int x5), (6, .int x6)] [] σ := by
  have hx := B.1
  have hb := B.2.1
  intro x1 x2 x3 x4 x5 x6 σ  hF H locs ls hP hD hS hl
  have hF : (vB2 (F_Mod_lacks x1 2 σ) fun r3 σ1 => (if r3 = 0 then (if x4 = 3 then (if (x6 + x2) ≤ 9 then (if x4 = 2 then (vG x3 16 fun j14 => (if (σ1 25 0 j14) = (σ1 44 0 0) then (F_Mod_sett_176  x1 x2 x3 x4 x5 x6 σ1) else (some ((-9), σ1)))) else (F_Mod_sett_176  x1 x2 x3 x4 x5 x6 σ1)) else (some ((-8), σ1))) else (if x4 = 2 then (vG x3 16 fun j7 => (if (σ1 25 0 j7) = (σ1 44 0 0) then (F_Mod_sett_176  x1 x2 x3 x4 x5 x6 σ1) else (some ((-9), σ1)))) else (F_Mod_sett_176  x1 x2 x3 x4 x5 x6 σ1))) else (some ((-5), σ1)))) = some (r, σ') := hF
  refine lv_aload_n hx hb d_Mod_sett_124 rfl (lv_at hl 0 rfl) ?_
  refine lv_iload_n hx hb d_Mod_sett_125 rfl (lv_at hl 1 rfl) ?_
  refine lv_iconst (v := 2) hx hb d_Mod_sett_126 (by decide) ?_
  obtain ⟨r3, σ1, q2, hF⟩ := vB2_some hF
  refine ed_cvI (As := [.int x1, .int 2]) (rest := []) B hP hD hS hA (C_Mod_lacks l D ad ca x1 2 σ r3 σ1  q2) me_Mod_lacks mv_Mod_lacks L_Mod_227 (ed_rc_Mod B hP (by decide)) ⟨rfl, rfl⟩ ⟨Nat.le_of_ble_eq_true rfl, Nat.le_of_ble_eq_true rfl⟩ rfl rfl hl.1 (lv_room (Nat.le_of_ble_eq_true rfl)) d_Mod_sett_127 (fun H locs hP hD hS => ?_)
  refine lv_if_eq (tgt := 136) hx hb d_Mod_sett_130 (by decide) (fun c4 => ?_) (fun c4 => ?_)
  · have hF := vIt c4 hF
    refine lv_iload hx hb d_Mod_sett_136 (lv_at hl 4 rfl) ?_
    refine lv_iconst (v := 3) hx hb d_Mod_sett_138 (by decide) ?_
    refine lv_icmp_ne (tgt := 154) hx hb d_Mod_sett_139 (by decide) (fun c5 => ?_) (fun c5 => ?_)
    · have hF := vIf c5 hF
      refine lv_iload hx hb d_Mod_sett_154 (lv_at hl 4 rfl) ?_
      refine lv_iconst (v := 2) hx hb d_Mod_sett_156 (by decide) ?_
      refine lv_icmp_ne (tgt := 176) hx hb d_Mod_sett_157 (by decide) (fun c6 => ?_) (fun c6 => ?_)
      · have hF := vIf c6 hF
        exact T_Mod_sett_176 B hr hA  x1 x2 x3 x4 x5 x6 σ1  hF _ _ _ hP hD hS (lv_sub hl [0, 1, 2, 3, 4, 5, 6] rfl)
      · have hF := vIt c6 hF
        refine lv_aload_n hx hb d_Mod_sett_160 rfl (lv_at hl 0 rfl) ?_
        refine gf_Mod_owner B hP (by decide) L_Mod_86 d_Mod_sett_161 ?_
        refine lv_iload_n hx hb d_Mod_sett_164 rfl (lv_at hl 3 rfl) ?_
        obtain ⟨j7, ej8, hj9, hn10, hF⟩ := vG_some hF
        refine il_Mowner B hP (by decide) hn10 ej8 d_Mod_sett_165 ?_
        refine lv_aload_n hx hb d_Mod_sett_166 rfl (lv_at hl 0 rfl) ?_
        refine gf_Mod_running B hP (by decide) L_Mod_137 d_Mod_sett_167 ?_
        refine lv_icmp_eq (tgt := 176) hx hb d_Mod_sett_170 (by decide) (fun c11 => ?_) (fun c11 => ?_)
        · have hF := vIt c11 hF
          exact T_Mod_sett_176 B hr hA  x1 x2 x3 x4 x5 x6 σ1  hF _ _ _ hP hD hS (lv_sub hl [0, 1, 2, 3, 4, 5, 6] rfl)
        · have hF := vIf c11 hF
          refine lv_bipush (v := (-9)) hx hb d_Mod_sett_173 (by decide) ?_
          exact ed_rI B hr hA hP hD hS (vP hF) d_Mod_sett_175
    · have hF := vIt c5 hF
      refine lv_iload hx hb d_Mod_sett_142 (lv_at hl 6 rfl) ?_
      refine lv_iload_n hx hb d_Mod_sett_144 rfl (lv_at hl 2 rfl) ?_
      refine lv_iadd hx hb d_Mod_sett_145 ?_
      refine lv_bipush (v := 9) hx hb d_Mod_sett_146 (by decide) ?_
      refine lv_icmp_le (tgt := 154) hx hb d_Mod_sett_148 (by decide) (fun c12 => ?_) (fun c12 => ?_)
      · have hF := vIt c12 hF
        refine lv_iload hx hb d_Mod_sett_154 (lv_at hl 4 rfl) ?_
        refine lv_iconst (v := 2) hx hb d_Mod_sett_156 (by decide) ?_
        refine lv_icmp_ne (tgt := 176) hx hb d_Mod_sett_157 (by decide) (fun c13 => ?_) (fun c13 => ?_)
        · have hF := vIf c13 hF
          exact T_Mod_sett_176 B hr hA  x1 x2 x3 x4 x5 x6 σ1  hF _ _ _ hP hD hS (lv_sub hl [0, 1, 2, 3, 4, 5, 6] rfl)
        · have hF := vIt c13 hF
          refine lv_aload_n hx hb d_Mod_sett_160 rfl (lv_at hl 0 rfl) ?_
          refine gf_Mod_owner B hP (by decide) L_Mod_86 d_Mod_sett_161 ?_
          refine lv_iload_n hx hb d_Mod_sett_164 rfl (lv_at hl 3 rfl) ?_
          obtain ⟨j14, ej15, hj16, hn17, hF⟩ := vG_some hF
          refine il_Mowner B hP (by decide) hn17 ej15 d_Mod_sett_165 ?_
          refine lv_aload_n hx hb d_Mod_sett_166 rfl (lv_at hl 0 rfl) ?_
          refine gf_Mod_running B hP (by decide) L_Mod_137 d_Mod_sett_167 ?_
          refine lv_icmp_eq (tgt := 176) hx hb d_Mod_sett_170 (by decide) (fun c18 => ?_) (fun c18 => ?_)
          · have hF := vIt c18 hF
            exact T_Mod_sett_176 B hr hA  x1 x2 x3 x4 x5 x6 σ1  hF _ _ _ hP hD hS (lv_sub hl [0, 1, 2, 3, 4, 5, 6] rfl)
          · have hF := vIf c18 hF
            refine lv_bipush (v := (-9)) hx hb d_Mod_sett_173 (by decide) ?_
            exact ed_rI B hr hA hP hD hS (vP hF) d_Mod_sett_175
      · have hF := vIf c12 hF
        refine lv_bipush (v := (-8)) hx hb d_Mod_sett_151 (by decide) ?_
        exact ed_rI B hr hA hP hD hS (vP hF) d_Mod_sett_153
  · have hF := vIf c4 hF
    refine lv_bipush (v := (-5)) hx hb d_Mod_sett_133 (by decide) ?_
    exact ed_rI B hr hA hP hD hS (vP hF) d_Mod_sett_135
set_option maxHeartbeats 4000000 in
set_option maxRecDepth 100000 in
theorem T_Mod_sett_90 {r : Int32} {σ' : ed_S} (B : ed_B p s m args meth c prog_10_method_33_code "ExecutiveDeskModel" 7 D ca) (hr : meth.sig.returnType = (some .int)) (hA : ∀ q : Nat, s.heap.size ≤ q → A q) : ∀ (x1 : Int32) (x2 : Int32) (x3 : Int32) (x4 : Int32) (x5 : Int32) (x6 : Int32) (σ : ed_S), F_Mod_sett_90  x1 x2 x3 x4 x5 x6 σ = some (r, σ') → ed_G p l e rm_Mod_sett s m args below meth c D ca (md_w ad ca) A (ed_QI D ca (md_w ad ca) A below args s r σ') 7 90 [(0, .ref (ad (pMod 0))), (1, .int x1), (2, .int x2), (3, .int x3), (4, .int x4), (5, .int x5), (6, .int x6)] [] σ := by
  have hx := B.1
  have hb := B.2.1
  intro x1 x2 x3 x4 x5 x6 σ  hF H locs ls hP hD hS hl
  have hF : (if x4 = 3 then (vB2 (F_Mod_is x2 1 9 σ) fun r9 σ7 => (if r9 = 0 then (some ((-1), σ7)) else (if x4 = 4 then (vB2 (F_Mod_is x2 0 99 σ7) fun r14 σ12 => (if r14 = 0 then (some ((-1), σ12)) else (F_Mod_sett_124  x1 x2 x3 x4 x5 x6 σ12))) else (F_Mod_sett_124  x1 x2 x3 x4 x5 x6 σ7)))) else (if x4 = 4 then (vB2 (F_Mod_is x2 0 99 σ) fun r5 σ3 => (if r5 = 0 then (some ((-1), σ3)) else (F_Mod_sett_124  x1 x2 x3 x4 x5 x6 σ3))) else (F_Mod_sett_124  x1 x2 x3 x4 x5 x6 σ))) = some (r, σ') := hF
  refine lv_iload hx hb d_Mod_sett_90 (lv_at hl 4 rfl) ?_
  refine lv_iconst (v := 3) hx hb d_Mod_sett_92 (by decide) ?_
  refine lv_icmp_ne (tgt := 106) hx hb d_Mod_sett_93 (by decide) (fun c1 => ?_) (fun c1 => ?_)
  · have hF := vIf c1 hF
    refine lv_iload hx hb d_Mod_sett_106 (lv_at hl 4 rfl) ?_
    refine lv_iconst (v := 4) hx hb d_Mod_sett_108 (by decide) ?_
    refine lv_icmp_ne (tgt := 124) hx hb d_Mod_sett_109 (by decide) (fun c2 => ?_) (fun c2 => ?_)
    · have hF := vIf c2 hF
      exact T_Mod_sett_124 B hr hA  x1 x2 x3 x4 x5 x6 σ  hF _ _ _ hP hD hS (lv_sub hl [0, 1, 2, 3, 4, 5, 6] rfl)
    · have hF := vIt c2 hF
      refine lv_iload_n hx hb d_Mod_sett_112 rfl (lv_at hl 2 rfl) ?_
      refine lv_iconst (v := 0) hx hb d_Mod_sett_113 (by decide) ?_
      refine lv_bipush (v := 99) hx hb d_Mod_sett_114 (by decide) ?_
      obtain ⟨r5, σ3, q4, hF⟩ := vB2_some hF
      refine ed_csI (As := [.int x2, .int 0, .int 99]) (rest := []) B hP hD hS hA (C_Mod_is l D ad ca x2 0 99 σ r5 σ3  q4) me_Mod_is st_Mod_is L_Mod_157 ⟨rfl, rfl⟩ ⟨Nat.le_of_ble_eq_true rfl, Nat.le_of_ble_eq_true rfl⟩ rfl rfl hl.1 (lv_room (Nat.le_of_ble_eq_true rfl)) d_Mod_sett_116 (fun H locs hP hD hS => ?_)
      refine lv_if_ne (tgt := 124) hx hb d_Mod_sett_119 (by decide) (fun c6 => ?_) (fun c6 => ?_)
      · have hF := vIf c6 hF
        exact T_Mod_sett_124 B hr hA  x1 x2 x3 x4 x5 x6 σ3  hF _ _ _ hP hD hS (lv_sub hl [0, 1, 2, 3, 4, 5, 6] rfl)
      · have hF := vIt c6 hF
        refine lv_iconst (v := (-1)) hx hb d_Mod_sett_122 (by decide) ?_
        exact ed_rI B hr hA hP hD hS (vP hF) d_Mod_sett_123
  · have hF := vIt c1 hF
    refine lv_iload_n hx hb d_Mod_sett_96 rfl (lv_at hl 2 rfl) ?_
    refine lv_iconst (v := 1) hx hb d_Mod_sett_97 (by decide) ?_
    refine lv_bipush (v := 9) hx hb d_Mod_sett_98 (by decide) ?_
    obtain ⟨r9, σ7, q8, hF⟩ := vB2_some hF
    refine ed_csI (As := [.int x2, .int 1, .int 9]) (rest := []) B hP hD hS hA (C_Mod_is l D ad ca x2 1 9 σ r9 σ7  q8) me_Mod_is st_Mod_is L_Mod_157 ⟨rfl, rfl⟩ ⟨Nat.le_of_ble_eq_true rfl, Nat.le_of_ble_eq_true rfl⟩ rfl rfl hl.1 (lv_room (Nat.le_of_ble_eq_true rfl)) d_Mod_sett_100 (fun H locs hP hD hS => ?_)
    refine lv_if_eq (tgt := 122) hx hb d_Mod_sett_103 (by decide) (fun c10 => ?_) (fun c10 => ?_)
    · have hF := vIt c10 hF
      refine lv_iconst (v := (-1)) hx hb d_Mod_sett_122 (by decide) ?_
      exact ed_rI B hr hA hP hD hS (vP hF) d_Mod_sett_123
    · have hF := vIf c10 hF
      refine lv_iload hx hb d_Mod_sett_106 (lv_at hl 4 rfl) ?_
      refine lv_iconst (v := 4) hx hb d_Mod_sett_108 (by decide) ?_
      refine lv_icmp_ne (tgt := 124) hx hb d_Mod_sett_109 (by decide) (fun c11 => ?_) (fun c11 => ?_)
      · have hF := vIf c11 hF
        exact T_Mod_sett_124 B hr hA  x1 x2 x3 x4 x5 x6 σ7  hF _ _ _ hP hD hS (lv_sub hl [0, 1, 2, 3, 4, 5, 6] rfl)
      · have hF := vIt c11 hF
        refine lv_iload_n hx hb d_Mod_sett_112 rfl (lv_at hl 2 rfl) ?_
        refine lv_iconst (v := 0) hx hb d_Mod_sett_113 (by decide) ?_
        refine lv_bipush (v := 99) hx hb d_Mod_sett_114 (by decide) ?_
        obtain ⟨r14, σ12, q13, hF⟩ := vB2_some hF
        refine ed_csI (As := [.int x2, .int 0, .int 99]) (rest := []) B hP hD hS hA (C_Mod_is l D ad ca x2 0 99 σ7 r14 σ12  q13) me_Mod_is st_Mod_is L_Mod_157 ⟨rfl, rfl⟩ ⟨Nat.le_of_ble_eq_true rfl, Nat.le_of_ble_eq_true rfl⟩ rfl rfl hl.1 (lv_room (Nat.le_of_ble_eq_true rfl)) d_Mod_sett_116 (fun H locs hP hD hS => ?_)
        refine lv_if_ne (tgt := 124) hx hb d_Mod_sett_119 (by decide) (fun c15 => ?_) (fun c15 => ?_)
        · have hF := vIf c15 hF
          exact T_Mod_sett_124 B hr hA  x1 x2 x3 x4 x5 x6 σ12  hF _ _ _ hP hD hS (lv_sub hl [0, 1, 2, 3, 4, 5, 6] rfl)
        · have hF := vIt c15 hF
          refine lv_iconst (v := (-1)) hx hb d_Mod_sett_122 (by decide) ?_
          exact ed_rI B hr hA hP hD hS (vP hF) d_Mod_sett_123
set_option maxHeartbeats 4000000 in
set_option maxRecDepth 100000 in
theorem T_Mod_sett_48 {r : Int32} {σ' : ed_S} (B : ed_B p s m args meth c prog_10_method_33_code "ExecutiveDeskModel" 7 D ca) (hr : meth.sig.returnType = (some .int)) (hA : ∀ q : Nat, s.heap.size ≤ q → A q) : ∀ (x1 : Int32) (x2 : Int32) (x3 : Int32) (x4 : Int32) (s0 : Int32) (σ : ed_S), F_Mod_sett_48  x1 x2 x3 x4 s0 σ = some (r, σ') → ed_G p l e rm_Mod_sett s m args below meth c D ca (md_w ad ca) A (ed_QI D ca (md_w ad ca) A below args s r σ') 7 48 [(0, .ref (ad (pMod 0))), (1, .int x1), (2, .int x2), (3, .int x3), (4, .int x4)] [.int s0] σ := by
  have hx := B.1
  have hb := B.2.1
  intro x1 x2 x3 x4 s0 σ  hF H locs ls hP hD hS hl
  have hF : (vG x3 16 fun j1 => (if x4 = 5 then (some ((-1), σ)) else (if 2 ≤ x4 then (if x4 = 2 then (if x2 = 1 then (F_Mod_sett_90  x1 x2 x3 x4 s0 (σ 24 0 j1) σ) else (some ((-1), σ))) else (F_Mod_sett_90  x1 x2 x3 x4 s0 (σ 24 0 j1) σ)) else (vB2 (F_Mod_is x2 0 1 σ) fun r11 σ9 => (if r11 = 0 then (some ((-1), σ9)) else (if x4 = 2 then (if x2 = 1 then (F_Mod_sett_90  x1 x2 x3 x4 s0 (σ 24 0 j1) σ9) else (some ((-1), σ9))) else (F_Mod_sett_90  x1 x2 x3 x4 s0 (σ 24 0 j1) σ9))))))) = some (r, σ') := hF
  refine lv_istore (lv' := [(5, .int s0), (0, .ref (ad (pMod 0))), (1, .int x1), (2, .int x2), (3, .int x3), (4, .int x4)]) hx hb d_Mod_sett_48 hl (by decide) rfl (fun ls hl => ?_)
  refine lv_aload_n hx hb d_Mod_sett_50 rfl (lv_at hl 1 rfl) ?_
  refine gf_Mod_count B hP (by decide) L_Mod_83 d_Mod_sett_51 ?_
  refine lv_iload_n hx hb d_Mod_sett_54 rfl (lv_at hl 4 rfl) ?_
  obtain ⟨j1, ej2, hj3, hn4, hF⟩ := vG_some hF
  refine il_Mcount B hP (by decide) hn4 ej2 d_Mod_sett_55 ?_
  refine lv_istore (lv' := [(6, .int (σ 24 0 j1)), (5, .int s0), (0, .ref (ad (pMod 0))), (1, .int x1), (2, .int x2), (3, .int x3), (4, .int x4)]) hx hb d_Mod_sett_56 hl (by decide) rfl (fun ls hl => ?_)
  refine lv_iload hx hb d_Mod_sett_58 (lv_at hl 6 rfl) ?_
  refine lv_iconst (v := 5) hx hb d_Mod_sett_60 (by decide) ?_
  refine lv_icmp_eq (tgt := 122) hx hb d_Mod_sett_61 (by decide) (fun c5 => ?_) (fun c5 => ?_)
  · have hF := vIt c5 hF
    refine lv_iconst (v := (-1)) hx hb d_Mod_sett_122 (by decide) ?_
    exact ed_rI B hr hA hP hD hS (vP hF) d_Mod_sett_123
  · have hF := vIf c5 hF
    refine lv_iload hx hb d_Mod_sett_64 (lv_at hl 6 rfl) ?_
    refine lv_iconst (v := 2) hx hb d_Mod_sett_66 (by decide) ?_
    refine lv_icmp_ge (tgt := 79) hx hb d_Mod_sett_67 (by decide) (fun c6 => ?_) (fun c6 => ?_)
    · have hF := vIt c6 hF
      refine lv_iload hx hb d_Mod_sett_79 (lv_at hl 6 rfl) ?_
      refine lv_iconst (v := 2) hx hb d_Mod_sett_81 (by decide) ?_
      refine lv_icmp_ne (tgt := 90) hx hb d_Mod_sett_82 (by decide) (fun c7 => ?_) (fun c7 => ?_)
      · have hF := vIf c7 hF
        exact T_Mod_sett_90 B hr hA  x1 x2 x3 x4 s0 (σ 24 0 j1) σ  hF _ _ _ hP hD hS (lv_sub hl [2, 3, 4, 5, 6, 1, 0] rfl)
      · have hF := vIt c7 hF
        refine lv_iload_n hx hb d_Mod_sett_85 rfl (lv_at hl 4 rfl) ?_
        refine lv_iconst (v := 1) hx hb d_Mod_sett_86 (by decide) ?_
        refine lv_icmp_ne (tgt := 122) hx hb d_Mod_sett_87 (by decide) (fun c8 => ?_) (fun c8 => ?_)
        · have hF := vIf c8 hF
          refine lv_iconst (v := (-1)) hx hb d_Mod_sett_122 (by decide) ?_
          exact ed_rI B hr hA hP hD hS (vP hF) d_Mod_sett_123
        · have hF := vIt c8 hF
          exact T_Mod_sett_90 B hr hA  x1 x2 x3 x4 s0 (σ 24 0 j1) σ  hF _ _ _ hP hD hS (lv_sub hl [2, 3, 4, 5, 6, 1, 0] rfl)
    · have hF := vIf c6 hF
      refine lv_iload_n hx hb d_Mod_sett_70 rfl (lv_at hl 4 rfl) ?_
      refine lv_iconst (v := 0) hx hb d_Mod_sett_71 (by decide) ?_
      refine lv_iconst (v := 1) hx hb d_Mod_sett_72 (by decide) ?_
      obtain ⟨r11, σ9, q10, hF⟩ := vB2_some hF
      refine ed_csI (As := [.int x2, .int 0, .int 1]) (rest := []) B hP hD hS hA (C_Mod_is l D ad ca x2 0 1 σ r11 σ9  q10) me_Mod_is st_Mod_is L_Mod_157 ⟨rfl, rfl⟩ ⟨Nat.le_of_ble_eq_true rfl, Nat.le_of_ble_eq_true rfl⟩ rfl rfl hl.1 (lv_room (Nat.le_of_ble_eq_true rfl)) d_Mod_sett_73 (fun H locs hP hD hS => ?_)
      refine lv_if_eq (tgt := 122) hx hb d_Mod_sett_76 (by decide) (fun c12 => ?_) (fun c12 => ?_)
      · have hF := vIt c12 hF
        refine lv_iconst (v := (-1)) hx hb d_Mod_sett_122 (by decide) ?_
        exact ed_rI B hr hA hP hD hS (vP hF) d_Mod_sett_123
      · have hF := vIf c12 hF
        refine lv_iload hx hb d_Mod_sett_79 (lv_at hl 6 rfl) ?_
        refine lv_iconst (v := 2) hx hb d_Mod_sett_81 (by decide) ?_
        refine lv_icmp_ne (tgt := 90) hx hb d_Mod_sett_82 (by decide) (fun c13 => ?_) (fun c13 => ?_)
        · have hF := vIf c13 hF
          exact T_Mod_sett_90 B hr hA  x1 x2 x3 x4 s0 (σ 24 0 j1) σ9  hF _ _ _ hP hD hS (lv_sub hl [2, 3, 4, 5, 6, 1, 0] rfl)
        · have hF := vIt c13 hF
          refine lv_iload_n hx hb d_Mod_sett_85 rfl (lv_at hl 4 rfl) ?_
          refine lv_iconst (v := 1) hx hb d_Mod_sett_86 (by decide) ?_
          refine lv_icmp_ne (tgt := 122) hx hb d_Mod_sett_87 (by decide) (fun c14 => ?_) (fun c14 => ?_)
          · have hF := vIf c14 hF
            refine lv_iconst (v := (-1)) hx hb d_Mod_sett_122 (by decide) ?_
            exact ed_rI B hr hA hP hD hS (vP hF) d_Mod_sett_123
          · have hF := vIt c14 hF
            exact T_Mod_sett_90 B hr hA  x1 x2 x3 x4 s0 (σ 24 0 j1) σ9  hF _ _ _ hP hD hS (lv_sub hl [2, 3, 4, 5, 6, 1, 0] rfl)
set_option maxHeartbeats 4000000 in
set_option maxRecDepth 100000 in
theorem T_Mod_sett {r : Int32} {σ' : ed_S} (B : ed_B p s m args meth c prog_10_method_33_code "ExecutiveDeskModel" 7 D ca) (hr : meth.sig.returnType = (some .int)) (hA : ∀ q : Nat, s.heap.size ≤ q → A q) : ∀ (x1 : Int32) (x2 : Int32) (σ : ed_S), F_Mod_sett  x1 x2 σ = some (r, σ') → ed_G p l e rm_Mod_sett s m args below meth c D ca (md_w ad ca) A (ed_QI D ca (md_w ad ca) A below args s r σ') 7 0 [(0, .ref (ad (pMod 0))), (1, .int x1), (2, .int x2)] [] σ := by
  have hx := B.1
  have hb := B.2.1
  intro x1 x2 σ  hF H locs ls hP hD hS hl
  have hF : (if 0 ≤ (σ 44 0 0) then (vB2 (F_Mod_isHandle x1 σ) fun r4 σ2 => (if r4 = 0 then (some ((-1), σ2)) else (vB2 (F_Mod_objectOf x1 σ2) fun r8 σ6 => (vG r8 16 fun j9 => (vG r8 16 fun j13 => (if (σ6 20 0 j13) = 0 then (F_Mod_sett_48  x1 x2 r8 (σ6 22 0 j9) 0 σ6) else (F_Mod_sett_48  x1 x2 r8 (σ6 22 0 j9) 1 σ6))))))) else (some ((-3), σ))) = some (r, σ') := hF
  refine lv_aload_n hx hb d_Mod_sett_0 rfl (lv_at hl 0 rfl) ?_
  refine gf_Mod_running B hP (by decide) L_Mod_137 d_Mod_sett_1 ?_
  refine lv_if_ge (tgt := 10) hx hb d_Mod_sett_4 (by decide) (fun c1 => ?_) (fun c1 => ?_)
  · have hF := vIt c1 hF
    refine lv_aload_n hx hb d_Mod_sett_10 rfl (lv_at hl 0 rfl) ?_
    refine lv_iload_n hx hb d_Mod_sett_11 rfl (lv_at hl 1 rfl) ?_
    obtain ⟨r4, σ2, q3, hF⟩ := vB2_some hF
    refine ed_cvI (As := [.int x1]) (rest := []) B hP hD hS hA (C_Mod_isHandle l D ad ca x1 σ r4 σ2  q3) me_Mod_isHandle mv_Mod_isHandle L_Mod_220 (ed_rc_Mod B hP (by decide)) ⟨rfl, rfl⟩ ⟨Nat.le_of_ble_eq_true rfl, Nat.le_of_ble_eq_true rfl⟩ rfl rfl hl.1 (lv_room (Nat.le_of_ble_eq_true rfl)) d_Mod_sett_12 (fun H locs hP hD hS => ?_)
    refine lv_if_ne (tgt := 20) hx hb d_Mod_sett_15 (by decide) (fun c5 => ?_) (fun c5 => ?_)
    · have hF := vIf c5 hF
      refine lv_aload_n hx hb d_Mod_sett_20 rfl (lv_at hl 0 rfl) ?_
      refine lv_iload_n hx hb d_Mod_sett_21 rfl (lv_at hl 1 rfl) ?_
      obtain ⟨r8, σ6, q7, hF⟩ := vB2_some hF
      refine ed_cvI (As := [.int x1]) (rest := []) B hP hD hS hA (C_Mod_objectOf l D ad ca x1 σ2 r8 σ6  q7) me_Mod_objectOf mv_Mod_objectOf L_Mod_224 (ed_rc_Mod B hP (by decide)) ⟨rfl, rfl⟩ ⟨Nat.le_of_ble_eq_true rfl, Nat.le_of_ble_eq_true rfl⟩ rfl rfl hl.1 (lv_room (Nat.le_of_ble_eq_true rfl)) d_Mod_sett_22 (fun H locs hP hD hS => ?_)
      refine lv_istore_n (lv' := [(3, .int r8), (0, .ref (ad (pMod 0))), (1, .int x1), (2, .int x2)]) hx hb d_Mod_sett_25 rfl hl (by decide) rfl (fun ls hl => ?_)
      refine lv_aload_n hx hb d_Mod_sett_26 rfl (lv_at hl 1 rfl) ?_
      refine gf_Mod_type B hP (by decide) L_Mod_77 d_Mod_sett_27 ?_
      refine lv_iload_n hx hb d_Mod_sett_30 rfl (lv_at hl 0 rfl) ?_
      obtain ⟨j9, ej10, hj11, hn12, hF⟩ := vG_some hF
      refine il_Mtype B hP (by decide) hn12 ej10 d_Mod_sett_31 ?_
      refine lv_istore (lv' := [(4, .int (σ6 22 0 j9)), (3, .int r8), (0, .ref (ad (pMod 0))), (1, .int x1), (2, .int x2)]) hx hb d_Mod_sett_32 hl (by decide) rfl (fun ls hl => ?_)
      refine lv_aload_n hx hb d_Mod_sett_34 rfl (lv_at hl 2 rfl) ?_
      refine gf_Mod_isSet B hP (by decide) L_Mod_71 d_Mod_sett_35 ?_
      refine lv_iload_n hx hb d_Mod_sett_38 rfl (lv_at hl 1 rfl) ?_
      obtain ⟨j13, ej14, hj15, hn16, hF⟩ := vG_some hF
      refine il_MisSet B hP (by decide) hn16 ej14 d_Mod_sett_39 ?_
      refine lv_if_eq (tgt := 47) hx hb d_Mod_sett_40 (by decide) (fun c17 => ?_) (fun c17 => ?_)
      · have hF := vIt c17 hF
        refine lv_iconst (v := 0) hx hb d_Mod_sett_47 (by decide) ?_
        exact T_Mod_sett_48 B hr hA  x1 x2 r8 (σ6 22 0 j9) 0 σ6  hF _ _ _ hP hD hS (lv_sub hl [2, 3, 4, 1, 0] rfl)
      · have hF := vIf c17 hF
        refine lv_iconst (v := 1) hx hb d_Mod_sett_43 (by decide) ?_
        refine lv_goto (tgt := 48) hx hb d_Mod_sett_44 (by decide) ?_
        exact T_Mod_sett_48 B hr hA  x1 x2 r8 (σ6 22 0 j9) 1 σ6  hF _ _ _ hP hD hS (lv_sub hl [2, 3, 4, 1, 0] rfl)
    · have hF := vIt c5 hF
      refine lv_iconst (v := (-1)) hx hb d_Mod_sett_18 (by decide) ?_
      exact ed_rI B hr hA hP hD hS (vP hF) d_Mod_sett_19
  · have hF := vIf c1 hF
    refine lv_bipush (v := (-3)) hx hb d_Mod_sett_7 (by decide) ?_
    exact ed_rI B hr hA hP hD hS (vP hF) d_Mod_sett_9
set_option maxHeartbeats 4000000 in
set_option maxRecDepth 100000 in
theorem C_Mod_sett (l : Launch) (D : va_G) (ad : Nat → Nat) (ca : Nat → ClassId) (x1 : Int32) (x2 : Int32) (σ : ed_S) (r : Int32) (σ' : ed_S) (hF : F_Mod_sett x1 x2 σ = some (r, σ')) : ed_MI l y_Mod_sett ws_Mod_sett rm_Mod_sett D ca (md_w ad ca) [.ref (ad (pMod 0)), .int x1, .int x2] σ r σ' := by
  refine ed_metI (cc := prog_10_method_33_code) (own := "ExecutiveDeskModel") (nL := 7) (ret := (some .int)) (by decide) rfl rfl (Nat.le_of_ble_eq_true rfl) ?_
  intro p e s m args below meth c A B hr hA
  exact T_Mod_sett B hr hA x1 x2 σ  hF
abbrev ws_Mod_call : List Cond := Cond.code y_Mod_call prog_10_method_34_code 3 (some .int) :: ed_tb
abbrev rm_Mod_call : Room := { frames := 3, cells := 0, slots := 0, locals := 66 }
def F_Mod_call (x1 : Int32) (x2 : Int32) (σ : ed_S) : Option (Int32 × ed_S) := (vB2 (F_Mod_is x1 0 ((σ 43 0 0) - 1) σ) fun r3 σ1 => (if r3 = 0 then (some ((-1), σ1)) else (vG x1 8 fun j5 => (if (σ1 7 0 j5) = 3 then (some ((-1), σ1)) else (vB2 (F_Mod_is x2 1 99 σ1) fun r12 σ10 => (if r12 = 0 then (some ((-1), σ10)) else (vG x1 8 fun j14 => (if (σ10 9 0 j14) = 4 then (some ((-2), σ10)) else (vG x1 8 fun j19 => (vG x1 8 fun j23 => vL (ed_st σ10 9 0 j23 ((σ10 9 0 j19) + 1)) fun σ27 => (vG ((4 * x1) + (σ10 9 0 j19)) 32 fun j29 => vL (ed_st σ27 18 0 j29 x2) fun σ33 => (vB1 (F_Mod_alert x1 σ33) fun σ35 => (vG x1 8 fun j37 => (vB2 (F_Mod_end (σ35 9 0 j37) σ35) fun r43 σ41 => (some (r43, σ41))))))))))))))))
set_option maxHeartbeats 4000000 in
set_option maxRecDepth 100000 in
theorem T_Mod_call {r : Int32} {σ' : ed_S} (B : ed_B p s m args meth c prog_10_method_34_code "ExecutiveDeskModel" 3 D ca) (hr : meth.sig.returnType = (some .int)) (hA : ∀ q : Nat, s.heap.size ≤ q → A q) : ∀ (x1 : Int32) (x2 : Int32) (σ : ed_S), F_Mod_call  x1 x2 σ = some (r, σ') → ed_G p l e rm_Mod_call s m args below meth c D ca (md_w ad ca) A (ed_QI D ca (md_w ad ca) A below args s r σ') 3 0 [(0, .ref (ad (pMod 0))), (1, .int x1), (2, .int x2)] [] σ := by
  have hx := B.1
  have hb := B.2.1
  intro x1 x2 σ  hF H locs ls hP hD hS hl
  have hF : (vB2 (F_Mod_is x1 0 ((σ 43 0 0) - 1) σ) fun r3 σ1 => (if r3 = 0 then (some ((-1), σ1)) else (vG x1 8 fun j5 => (if (σ1 7 0 j5) = 3 then (some ((-1), σ1)) else (vB2 (F_Mod_is x2 1 99 σ1) fun r12 σ10 => (if r12 = 0 then (some ((-1), σ10)) else (vG x1 8 fun j14 => (if (σ10 9 0 j14) = 4 then (some ((-2), σ10)) else (vG x1 8 fun j19 => (vG x1 8 fun j23 => vL (ed_st σ10 9 0 j23 ((σ10 9 0 j19) + 1)) fun σ27 => (vG ((4 * x1) + (σ10 9 0 j19)) 32 fun j29 => vL (ed_st σ27 18 0 j29 x2) fun σ33 => (vB1 (F_Mod_alert x1 σ33) fun σ35 => (vG x1 8 fun j37 => (vB2 (F_Mod_end (σ35 9 0 j37) σ35) fun r43 σ41 => (some (r43, σ41)))))))))))))))) = some (r, σ') := hF
  refine lv_iload_n hx hb d_Mod_call_0 rfl (lv_at hl 1 rfl) ?_
  refine lv_iconst (v := 0) hx hb d_Mod_call_1 (by decide) ?_
  refine lv_aload_n hx hb d_Mod_call_2 rfl (lv_at hl 0 rfl) ?_
  refine gf_Mod_threads B hP (by decide) L_Mod_144 d_Mod_call_3 ?_
  refine lv_iconst (v := 1) hx hb d_Mod_call_6 (by decide) ?_
  refine lv_isub hx hb d_Mod_call_7 ?_
  obtain ⟨r3, σ1, q2, hF⟩ := vB2_some hF
  refine ed_csI (As := [.int x1, .int 0, .int ((σ 43 0 0) - 1)]) (rest := []) B hP hD hS hA (C_Mod_is l D ad ca x1 0 ((σ 43 0 0) - 1) σ r3 σ1  q2) me_Mod_is st_Mod_is L_Mod_157 ⟨rfl, rfl⟩ ⟨Nat.le_of_ble_eq_true rfl, Nat.le_of_ble_eq_true rfl⟩ rfl rfl hl.1 (lv_room (Nat.le_of_ble_eq_true rfl)) d_Mod_call_8 (fun H locs hP hD hS => ?_)
  refine lv_if_eq (tgt := 34) hx hb d_Mod_call_11 (by decide) (fun c4 => ?_) (fun c4 => ?_)
  · have hF := vIt c4 hF
    refine lv_iconst (v := (-1)) hx hb d_Mod_call_34 (by decide) ?_
    exact ed_rI B hr hA hP hD hS (vP hF) d_Mod_call_35
  · have hF := vIf c4 hF
    refine lv_aload_n hx hb d_Mod_call_14 rfl (lv_at hl 0 rfl) ?_
    refine gf_Mod_state B hP (by decide) L_Mod_31 d_Mod_call_15 ?_
    refine lv_iload_n hx hb d_Mod_call_18 rfl (lv_at hl 1 rfl) ?_
    obtain ⟨j5, ej6, hj7, hn8, hF⟩ := vG_some hF
    refine il_Mstate B hP (by decide) hn8 ej6 d_Mod_call_19 ?_
    refine lv_iconst (v := 3) hx hb d_Mod_call_20 (by decide) ?_
    refine lv_icmp_eq (tgt := 34) hx hb d_Mod_call_21 (by decide) (fun c9 => ?_) (fun c9 => ?_)
    · have hF := vIt c9 hF
      refine lv_iconst (v := (-1)) hx hb d_Mod_call_34 (by decide) ?_
      exact ed_rI B hr hA hP hD hS (vP hF) d_Mod_call_35
    · have hF := vIf c9 hF
      refine lv_iload_n hx hb d_Mod_call_24 rfl (lv_at hl 2 rfl) ?_
      refine lv_iconst (v := 1) hx hb d_Mod_call_25 (by decide) ?_
      refine lv_bipush (v := 99) hx hb d_Mod_call_26 (by decide) ?_
      obtain ⟨r12, σ10, q11, hF⟩ := vB2_some hF
      refine ed_csI (As := [.int x2, .int 1, .int 99]) (rest := []) B hP hD hS hA (C_Mod_is l D ad ca x2 1 99 σ1 r12 σ10  q11) me_Mod_is st_Mod_is L_Mod_157 ⟨rfl, rfl⟩ ⟨Nat.le_of_ble_eq_true rfl, Nat.le_of_ble_eq_true rfl⟩ rfl rfl hl.1 (lv_room (Nat.le_of_ble_eq_true rfl)) d_Mod_call_28 (fun H locs hP hD hS => ?_)
      refine lv_if_ne (tgt := 36) hx hb d_Mod_call_31 (by decide) (fun c13 => ?_) (fun c13 => ?_)
      · have hF := vIf c13 hF
        refine lv_aload_n hx hb d_Mod_call_36 rfl (lv_at hl 0 rfl) ?_
        refine gf_Mod_calls B hP (by decide) L_Mod_37 d_Mod_call_37 ?_
        refine lv_iload_n hx hb d_Mod_call_40 rfl (lv_at hl 1 rfl) ?_
        obtain ⟨j14, ej15, hj16, hn17, hF⟩ := vG_some hF
        refine il_Mcalls B hP (by decide) hn17 ej15 d_Mod_call_41 ?_
        refine lv_iconst (v := 4) hx hb d_Mod_call_42 (by decide) ?_
        refine lv_icmp_ne (tgt := 49) hx hb d_Mod_call_43 (by decide) (fun c18 => ?_) (fun c18 => ?_)
        · have hF := vIf c18 hF
          refine lv_aload_n hx hb d_Mod_call_49 rfl (lv_at hl 0 rfl) ?_
          refine gf_Mod_row B hP (by decide) L_Mod_64 d_Mod_call_50 ?_
          refine lv_iconst (v := 4) hx hb d_Mod_call_53 (by decide) ?_
          refine lv_iload_n hx hb d_Mod_call_54 rfl (lv_at hl 1 rfl) ?_
          refine lv_imul hx hb d_Mod_call_55 ?_
          refine lv_aload_n hx hb d_Mod_call_56 rfl (lv_at hl 0 rfl) ?_
          refine gf_Mod_calls B hP (by decide) L_Mod_37 d_Mod_call_57 ?_
          refine lv_iload_n hx hb d_Mod_call_60 rfl (lv_at hl 1 rfl) ?_
          refine lv_dup2_11 hx hb d_Mod_call_61 rfl rfl ?_
          obtain ⟨j19, ej20, hj21, hn22, hF⟩ := vG_some hF
          refine il_Mcalls B hP (by decide) hn22 ej20 d_Mod_call_62 ?_
          refine lv_dup_x2 hx hb d_Mod_call_63 rfl rfl rfl ?_
          refine lv_iconst (v := 1) hx hb d_Mod_call_64 (by decide) ?_
          refine lv_iadd hx hb d_Mod_call_65 ?_
          obtain ⟨j23, ej24, hj25, hn26, hF⟩ := vG_some hF
          obtain ⟨σ27, e28, hF⟩ := vL_some hF
          refine is_Mcalls B hP hD hS (by decide) hn26 ej24 e28 d_Mod_call_66 (fun H locs hP hD hS => ?_)
          refine lv_iadd hx hb d_Mod_call_67 ?_
          refine lv_iload_n hx hb d_Mod_call_68 rfl (lv_at hl 2 rfl) ?_
          obtain ⟨j29, ej30, hj31, hn32, hF⟩ := vG_some hF
          obtain ⟨σ33, e34, hF⟩ := vL_some hF
          refine is_Mrow B hP hD hS (by decide) hn32 ej30 e34 d_Mod_call_69 (fun H locs hP hD hS => ?_)
          refine lv_aload_n hx hb d_Mod_call_70 rfl (lv_at hl 0 rfl) ?_
          refine lv_iload_n hx hb d_Mod_call_71 rfl (lv_at hl 1 rfl) ?_
          obtain ⟨σ35, q36, hF⟩ := vB1_some hF
          refine ed_cvV (As := [.int x1]) (rest := []) B hP hD hS hA (C_Mod_alert l D ad ca x1 σ33 σ35  q36) me_Mod_alert mv_Mod_alert L_Mod_243 (ed_rc_Mod B hP (by decide)) ⟨rfl, rfl⟩ ⟨Nat.le_of_ble_eq_true rfl, Nat.le_of_ble_eq_true rfl⟩ rfl rfl hl.1 (lv_room (Nat.le_of_ble_eq_true rfl)) d_Mod_call_72 (fun H locs hP hD hS => ?_)
          refine lv_aload_n hx hb d_Mod_call_75 rfl (lv_at hl 0 rfl) ?_
          refine lv_aload_n hx hb d_Mod_call_76 rfl (lv_at hl 0 rfl) ?_
          refine gf_Mod_calls B hP (by decide) L_Mod_37 d_Mod_call_77 ?_
          refine lv_iload_n hx hb d_Mod_call_80 rfl (lv_at hl 1 rfl) ?_
          obtain ⟨j37, ej38, hj39, hn40, hF⟩ := vG_some hF
          refine il_Mcalls B hP (by decide) hn40 ej38 d_Mod_call_81 ?_
          obtain ⟨r43, σ41, q42, hF⟩ := vB2_some hF
          refine ed_cvI (As := [.int (σ35 9 0 j37)]) (rest := []) B hP hD hS hA (C_Mod_end l D ad ca (σ35 9 0 j37) σ35 r43 σ41  q42) me_Mod_end mv_Mod_end L_Mod_168 (ed_rc_Mod B hP (by decide)) ⟨rfl, rfl⟩ ⟨Nat.le_of_ble_eq_true rfl, Nat.le_of_ble_eq_true rfl⟩ rfl rfl hl.1 (lv_room (Nat.le_of_ble_eq_true rfl)) d_Mod_call_82 (fun H locs hP hD hS => ?_)
          exact ed_rI B hr hA hP hD hS (vP hF) d_Mod_call_85
        · have hF := vIt c18 hF
          refine lv_bipush (v := (-2)) hx hb d_Mod_call_46 (by decide) ?_
          exact ed_rI B hr hA hP hD hS (vP hF) d_Mod_call_48
      · have hF := vIt c13 hF
        refine lv_iconst (v := (-1)) hx hb d_Mod_call_34 (by decide) ?_
        exact ed_rI B hr hA hP hD hS (vP hF) d_Mod_call_35
set_option maxHeartbeats 4000000 in
set_option maxRecDepth 100000 in
theorem C_Mod_call (l : Launch) (D : va_G) (ad : Nat → Nat) (ca : Nat → ClassId) (x1 : Int32) (x2 : Int32) (σ : ed_S) (r : Int32) (σ' : ed_S) (hF : F_Mod_call x1 x2 σ = some (r, σ')) : ed_MI l y_Mod_call ws_Mod_call rm_Mod_call D ca (md_w ad ca) [.ref (ad (pMod 0)), .int x1, .int x2] σ r σ' := by
  refine ed_metI (cc := prog_10_method_34_code) (own := "ExecutiveDeskModel") (nL := 3) (ret := (some .int)) (by decide) rfl rfl (Nat.le_of_ble_eq_true rfl) ?_
  intro p e s m args below meth c A B hr hA
  exact T_Mod_call B hr hA x1 x2 σ  hF
end EDT
