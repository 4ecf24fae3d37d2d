section EDT
variable {p : Program} {l : Launch} {e : Env} {s : State} {m : MethodId} {args : Array Value} {below : List Frame} {meth : Method} {c : Code} {D : va_G} {ad : Nat → Nat} {ca : Nat → ClassId} {A : Nat → Prop}
abbrev ws_Mod_satisfy : List Cond := Cond.code y_Mod_satisfy prog_10_method_20_code 7 (some .int) :: ed_tb
abbrev rm_Mod_satisfy : Room := { frames := 1, cells := 0, slots := 0, locals := 23 }
def F_Mod_satisfy_124 : Nat → Int32 → Int32 → Int32 → Int32 → Int32 → Int32 → ed_S → Option (Int32 × ed_S)
  | 0, _, _, _, _, _, _, _ => none
  | n + 1, x1, x2, x3, x4, x5, x6, σ => (if 3 ≤ x6 then (some (x5, σ)) else (vG ((3 * x1) + x6) 24 fun j2 => (if (σ 17 0 j2) < 0 then ((F_Mod_satisfy_124  n) x1 x2 x3 x4 x5 (x6 + 1) σ) else (vG ((3 * x1) + x6) 24 fun j7 => (vB2 (F_Mod_take (σ 17 0 j7) x1 σ) fun r13 σ11 => ((F_Mod_satisfy_124  n) x1 x2 x3 x4 (x5 ||| r13) (x6 + 1) σ11))))))
def F_Mod_satisfy_10 : Nat → Int32 → Int32 → Int32 → Int32 → Int32 → ed_S → Option (Int32 × ed_S)
  | 0, _, _, _, _, _, _ => none
  | n + 1, x1, x2, x3, x4, x5, σ => (if 3 ≤ x5 then (vG x1 8 fun j2 => (if ((σ 14 0 j2) &&& 1) = 0 then (if 0 ≤ x4 then (vG ((3 * x1) + x4) 24 fun j9 => (vB2 (F_Mod_take (σ 17 0 j9) x1 σ) fun r15 σ13 => (some ((x4 + r15), σ13)))) else (some ((-1), σ))) else (if x2 ≤ x3 then (F_Mod_satisfy_124  ed_fu x1 x2 x3 x4 0 0 σ) else (some ((-1), σ))))) else (vG ((3 * x1) + x5) 24 fun j16 => (if 0 ≤ (σ 17 0 j16) then (vB2 (F_Mod_isSignaled (σ 17 0 j16) x1 σ) fun r23 σ21 => (if r23 = 0 then ((F_Mod_satisfy_10  n) x1 (x2 + 1) x3 x4 (x5 + 1) σ21) else (if 0 ≤ x4 then ((F_Mod_satisfy_10  n) x1 (x2 + 1) (x3 + 1) x4 (x5 + 1) σ21) else ((F_Mod_satisfy_10  n) x1 (x2 + 1) (x3 + 1) x5 (x5 + 1) σ21)))) else ((F_Mod_satisfy_10  n) x1 x2 x3 x4 (x5 + 1) σ))))
def F_Mod_satisfy (x1 : Int32) (σ : ed_S) : Option (Int32 × ed_S) := (F_Mod_satisfy_10  ed_fu x1 0 0 (-1) 0 σ)
set_option maxHeartbeats 4000000 in
set_option maxRecDepth 100000 in
theorem T_Mod_satisfy_124 {r : Int32} {σ' : ed_S} (B : ed_B p s m args meth c prog_10_method_20_code "ExecutiveDeskModel" 7 D ca) (hr : meth.sig.returnType = (some .int)) (hA : ∀ q : Nat, s.heap.size ≤ q → A q) : ∀ (n : Nat) (x1 : Int32) (x2 : Int32) (x3 : Int32) (x4 : Int32) (x5 : Int32) (x6 : Int32) (σ : ed_S), F_Mod_satisfy_124  n x1 x2 x3 x4 x5 x6 σ = some (r, σ') → ed_G p l e rm_Mod_satisfy s m args below meth c D ca (md_w ad ca) A (ed_QI D ca (md_w ad ca) A below args s r σ') 7 124 [(0, .ref (ad (pMod 0))), (1, .int x1), (2, .int x2), (3, .int x3), (4, .int x4), (5, .int x5), (6, .int x6)] [] σ := by
  have hx := B.1
  have hb := B.2.1
  intro n
  induction n with
  | zero => intro x1 x2 x3 x4 x5 x6 σ  hF; exact absurd hF (by intro h; cases h)
  | succ n kk124 =>
    intro x1 x2 x3 x4 x5 x6 σ  hF H locs ls hP hD hS hl
    have hF : (if 3 ≤ x6 then (some (x5, σ)) else (vG ((3 * x1) + x6) 24 fun j2 => (if (σ 17 0 j2) < 0 then ((F_Mod_satisfy_124  n) x1 x2 x3 x4 x5 (x6 + 1) σ) else (vG ((3 * x1) + x6) 24 fun j7 => (vB2 (F_Mod_take (σ 17 0 j7) x1 σ) fun r13 σ11 => ((F_Mod_satisfy_124  n) x1 x2 x3 x4 (x5 ||| r13) (x6 + 1) σ11)))))) = some (r, σ') := hF
    refine lv_iload hx hb d_Mod_satisfy_124 (lv_at hl 6 rfl) ?_
    refine lv_iconst (v := 3) hx hb d_Mod_satisfy_126 (by decide) ?_
    refine lv_icmp_ge (tgt := 171) hx hb d_Mod_satisfy_127 (by decide) (fun c1 => ?_) (fun c1 => ?_)
    · have hF := vIt c1 hF
      refine lv_iload hx hb d_Mod_satisfy_171 (lv_at hl 5 rfl) ?_
      exact ed_rI B hr hA hP hD hS (vP hF) d_Mod_satisfy_173
    · have hF := vIf c1 hF
      refine lv_aload_n hx hb d_Mod_satisfy_130 rfl (lv_at hl 0 rfl) ?_
      refine gf_Mod_place B hP (by decide) L_Mod_61 d_Mod_satisfy_131 ?_
      refine lv_iconst (v := 3) hx hb d_Mod_satisfy_134 (by decide) ?_
      refine lv_iload_n hx hb d_Mod_satisfy_135 rfl (lv_at hl 1 rfl) ?_
      refine lv_imul hx hb d_Mod_satisfy_136 ?_
      refine lv_iload hx hb d_Mod_satisfy_137 (lv_at hl 6 rfl) ?_
      refine lv_iadd hx hb d_Mod_satisfy_139 ?_
      obtain ⟨j2, ej3, hj4, hn5, hF⟩ := vG_some hF
      refine il_Mplace B hP (by decide) hn5 ej3 d_Mod_satisfy_140 ?_
      refine lv_if_lt (tgt := 165) hx hb d_Mod_satisfy_141 (by decide) (fun c6 => ?_) (fun c6 => ?_)
      · have hF := vIt c6 hF
        refine lv_iinc (v := (x6 + 1)) (lv' := [(6, .int (x6 + 1)), (0, .ref (ad (pMod 0))), (1, .int x1), (2, .int x2), (3, .int x3), (4, .int x4), (5, .int x5)]) hx hb d_Mod_satisfy_165 hl (k := 6) rfl rfl (by decide) rfl (fun ls hl => ?_)
        refine lv_goto (tgt := 124) hx hb d_Mod_satisfy_168 (by decide) ?_
        exact kk124 x1 x2 x3 x4 x5 (x6 + 1) σ  hF _ _ _ hP hD hS (lv_sub hl [1, 2, 3, 4, 5, 6, 0] rfl)
      · have hF := vIf c6 hF
        refine lv_iload hx hb d_Mod_satisfy_144 (lv_at hl 5 rfl) ?_
        refine lv_aload_n hx hb d_Mod_satisfy_146 rfl (lv_at hl 0 rfl) ?_
        refine lv_aload_n hx hb d_Mod_satisfy_147 rfl (lv_at hl 0 rfl) ?_
        refine gf_Mod_place B hP (by decide) L_Mod_61 d_Mod_satisfy_148 ?_
        refine lv_iconst (v := 3) hx hb d_Mod_satisfy_151 (by decide) ?_
        refine lv_iload_n hx hb d_Mod_satisfy_152 rfl (lv_at hl 1 rfl) ?_
        refine lv_imul hx hb d_Mod_satisfy_153 ?_
        refine lv_iload hx hb d_Mod_satisfy_154 (lv_at hl 6 rfl) ?_
        refine lv_iadd hx hb d_Mod_satisfy_156 ?_
        obtain ⟨j7, ej8, hj9, hn10, hF⟩ := vG_some hF
        refine il_Mplace B hP (by decide) hn10 ej8 d_Mod_satisfy_157 ?_
        refine lv_iload_n hx hb d_Mod_satisfy_158 rfl (lv_at hl 1 rfl) ?_
        obtain ⟨r13, σ11, q12, hF⟩ := vB2_some hF
        refine ed_cvI (As := [.int (σ 17 0 j7), .int x1]) (rest := [.int x5]) B hP hD hS hA (C_Mod_take l D ad ca (σ 17 0 j7) x1 σ r13 σ11  q12) me_Mod_take mv_Mod_take L_Mod_200 (ed_rc_Mod B hP (by decide)) ⟨rfl, rfl⟩ ⟨Nat.le_of_ble_eq_true rfl, Nat.le_of_ble_eq_true rfl⟩ rfl rfl hl.1 (lv_room (Nat.le_of_ble_eq_true rfl)) d_Mod_satisfy_159 (fun H locs hP hD hS => ?_)
        refine lv_ior hx hb d_Mod_satisfy_162 ?_
        refine lv_istore (lv' := [(5, .int (x5 ||| r13)), (0, .ref (ad (pMod 0))), (1, .int x1), (2, .int x2), (3, .int x3), (4, .int x4), (6, .int x6)]) hx hb d_Mod_satisfy_163 hl (by decide) rfl (fun ls hl => ?_)
        refine lv_iinc (v := (x6 + 1)) (lv' := [(6, .int (x6 + 1)), (5, .int (x5 ||| r13)), (0, .ref (ad (pMod 0))), (1, .int x1), (2, .int x2), (3, .int x3), (4, .int x4)]) hx hb d_Mod_satisfy_165 hl (k := 6) rfl rfl (by decide) rfl (fun ls hl => ?_)
        refine lv_goto (tgt := 124) hx hb d_Mod_satisfy_168 (by decide) ?_
        exact kk124 x1 x2 x3 x4 (x5 ||| r13) (x6 + 1) σ11  hF _ _ _ hP hD hS (lv_sub hl [2, 3, 4, 5, 6, 1, 0] rfl)
set_option maxHeartbeats 4000000 in
set_option maxRecDepth 100000 in
theorem T_Mod_satisfy_10 {r : Int32} {σ' : ed_S} (B : ed_B p s m args meth c prog_10_method_20_code "ExecutiveDeskModel" 7 D ca) (hr : meth.sig.returnType = (some .int)) (hA : ∀ q : Nat, s.heap.size ≤ q → A q) : ∀ (n : Nat) (x1 : Int32) (x2 : Int32) (x3 : Int32) (x4 : Int32) (x5 : Int32) (σ : ed_S), F_Mod_satisfy_10  n x1 x2 x3 x4 x5 σ = some (r, σ') → ed_G p l e rm_Mod_satisfy s m args below meth c D ca (md_w ad ca) A (ed_QI D ca (md_w ad ca) A below args s r σ') 7 10 [(0, .ref (ad (pMod 0))), (1, .int x1), (2, .int x2), (3, .int x3), (4, .int x4), (5, .int x5)] [] σ := by
  have hx := B.1
  have hb := B.2.1
  intro n
  induction n with
  | zero => intro x1 x2 x3 x4 x5 σ  hF; exact absurd hF (by intro h; cases h)
  | succ n kk10 =>
    intro x1 x2 x3 x4 x5 σ  hF H locs ls hP hD hS hl
    have hF : (if 3 ≤ x5 then (vG x1 8 fun j2 => (if ((σ 14 0 j2) &&& 1) = 0 then (if 0 ≤ x4 then (vG ((3 * x1) + x4) 24 fun j9 => (vB2 (F_Mod_take (σ 17 0 j9) x1 σ) fun r15 σ13 => (some ((x4 + r15), σ13)))) else (some ((-1), σ))) else (if x2 ≤ x3 then (F_Mod_satisfy_124  ed_fu x1 x2 x3 x4 0 0 σ) else (some ((-1), σ))))) else (vG ((3 * x1) + x5) 24 fun j16 => (if 0 ≤ (σ 17 0 j16) then (vB2 (F_Mod_isSignaled (σ 17 0 j16) x1 σ) fun r23 σ21 => (if r23 = 0 then ((F_Mod_satisfy_10  n) x1 (x2 + 1) x3 x4 (x5 + 1) σ21) else (if 0 ≤ x4 then ((F_Mod_satisfy_10  n) x1 (x2 + 1) (x3 + 1) x4 (x5 + 1) σ21) else ((F_Mod_satisfy_10  n) x1 (x2 + 1) (x3 + 1) x5 (x5 + 1) σ21)))) else ((F_Mod_satisfy_10  n) x1 x2 x3 x4 (x5 + 1) σ)))) = some (r, σ') := hF
    refine lv_iload hx hb d_Mod_satisfy_10 (lv_at hl 5 rfl) ?_
    refine lv_iconst (v := 3) hx hb d_Mod_satisfy_12 (by decide) ?_
    refine lv_icmp_ge (tgt := 71) hx hb d_Mod_satisfy_13 (by decide) (fun c1 => ?_) (fun c1 => ?_)
    · have hF := vIt c1 hF
      refine lv_aload_n hx hb d_Mod_satisfy_71 rfl (lv_at hl 0 rfl) ?_
      refine gf_Mod_how B hP (by decide) L_Mod_52 d_Mod_satisfy_72 ?_
      refine lv_iload_n hx hb d_Mod_satisfy_75 rfl (lv_at hl 1 rfl) ?_
      obtain ⟨j2, ej3, hj4, hn5, hF⟩ := vG_some hF
      refine il_Mhow B hP (by decide) hn5 ej3 d_Mod_satisfy_76 ?_
      refine lv_iconst (v := 1) hx hb d_Mod_satisfy_77 (by decide) ?_
      refine lv_iand hx hb d_Mod_satisfy_78 ?_
      refine lv_if_ne (tgt := 111) hx hb d_Mod_satisfy_79 (by decide) (fun c6 => ?_) (fun c6 => ?_)
      · have hF := vIf c6 hF
        refine lv_iload_n hx hb d_Mod_satisfy_111 rfl (lv_at hl 3 rfl) ?_
        refine lv_iload_n hx hb d_Mod_satisfy_112 rfl (lv_at hl 2 rfl) ?_
        refine lv_icmp_ge (tgt := 118) hx hb d_Mod_satisfy_113 (by decide) (fun c7 => ?_) (fun c7 => ?_)
        · have hF := vIt c7 hF
          refine lv_iconst (v := 0) hx hb d_Mod_satisfy_118 (by decide) ?_
          refine lv_istore (lv' := [(5, .int 0), (0, .ref (ad (pMod 0))), (1, .int x1), (2, .int x2), (3, .int x3), (4, .int x4)]) hx hb d_Mod_satisfy_119 hl (by decide) rfl (fun ls hl => ?_)
          refine lv_iconst (v := 0) hx hb d_Mod_satisfy_121 (by decide) ?_
          refine lv_istore (lv' := [(6, .int 0), (5, .int 0), (0, .ref (ad (pMod 0))), (1, .int x1), (2, .int x2), (3, .int x3), (4, .int x4)]) hx hb d_Mod_satisfy_122 hl (by decide) rfl (fun ls hl => ?_)
          exact T_Mod_satisfy_124 B hr hA  ed_fu x1 x2 x3 x4 0 0 σ  hF _ _ _ hP hD hS (lv_sub hl [2, 3, 4, 5, 6, 1, 0] rfl)
        · have hF := vIf c7 hF
          refine lv_iconst (v := (-1)) hx hb d_Mod_satisfy_116 (by decide) ?_
          exact ed_rI B hr hA hP hD hS (vP hF) d_Mod_satisfy_117
      · have hF := vIt c6 hF
        refine lv_iload hx hb d_Mod_satisfy_82 (lv_at hl 4 rfl) ?_
        refine lv_if_ge (tgt := 91) hx hb d_Mod_satisfy_84 (by decide) (fun c8 => ?_) (fun c8 => ?_)
        · have hF := vIt c8 hF
          refine lv_iload hx hb d_Mod_satisfy_91 (lv_at hl 4 rfl) ?_
          refine lv_aload_n hx hb d_Mod_satisfy_93 rfl (lv_at hl 0 rfl) ?_
          refine lv_aload_n hx hb d_Mod_satisfy_94 rfl (lv_at hl 0 rfl) ?_
          refine gf_Mod_place B hP (by decide) L_Mod_61 d_Mod_satisfy_95 ?_
          refine lv_iconst (v := 3) hx hb d_Mod_satisfy_98 (by decide) ?_
          refine lv_iload_n hx hb d_Mod_satisfy_99 rfl (lv_at hl 1 rfl) ?_
          refine lv_imul hx hb d_Mod_satisfy_100 ?_
          refine lv_iload hx hb d_Mod_satisfy_101 (lv_at hl 4 rfl) ?_
          refine lv_iadd hx hb d_Mod_satisfy_103 ?_
          obtain ⟨j9, ej10, hj11, hn12, hF⟩ := vG_some hF
          refine il_Mplace B hP (by decide) hn12 ej10 d_Mod_satisfy_104 ?_
          refine lv_iload_n hx hb d_Mod_satisfy_105 rfl (lv_at hl 1 rfl) ?_
          obtain ⟨r15, σ13, q14, hF⟩ := vB2_some hF
          refine ed_cvI (As := [.int (σ 17 0 j9), .int x1]) (rest := [.int x4]) B hP hD hS hA (C_Mod_take l D ad ca (σ 17 0 j9) x1 σ r15 σ13  q14) me_Mod_take mv_Mod_take L_Mod_200 (ed_rc_Mod B hP (by decide)) ⟨rfl, rfl⟩ ⟨Nat.le_of_ble_eq_true rfl, Nat.le_of_ble_eq_true rfl⟩ rfl rfl hl.1 (lv_room (Nat.le_of_ble_eq_true rfl)) d_Mod_satisfy_106 (fun H locs hP hD hS => ?_)
          refine lv_iadd hx hb d_Mod_satisfy_109 ?_
          exact ed_rI B hr hA hP hD hS (vP hF) d_Mod_satisfy_110
        · have hF := vIf c8 hF
          refine lv_iconst (v := (-1)) hx hb d_Mod_satisfy_87 (by decide) ?_
          refine lv_goto (tgt := 110) hx hb d_Mod_satisfy_88 (by decide) ?_
          exact ed_rI B hr hA hP hD hS (vP hF) d_Mod_satisfy_110
    · have hF := vIf c1 hF
      refine lv_aload_n hx hb d_Mod_satisfy_16 rfl (lv_at hl 0 rfl) ?_
      refine gf_Mod_place B hP (by decide) L_Mod_61 d_Mod_satisfy_17 ?_
      refine lv_iconst (v := 3) hx hb d_Mod_satisfy_20 (by decide) ?_
      refine lv_iload_n hx hb d_Mod_satisfy_21 rfl (lv_at hl 1 rfl) ?_
      refine lv_imul hx hb d_Mod_satisfy_22 ?_
      refine lv_iload hx hb d_Mod_satisfy_23 (lv_at hl 5 rfl) ?_
      refine lv_iadd hx hb d_Mod_satisfy_25 ?_
      obtain ⟨j16, ej17, hj18, hn19, hF⟩ := vG_some hF
      refine il_Mplace B hP (by decide) hn19 ej17 d_Mod_satisfy_26 ?_
      refine lv_istore (lv' := [(6, .int (σ 17 0 j16)), (0, .ref (ad (pMod 0))), (1, .int x1), (2, .int x2), (3, .int x3), (4, .int x4), (5, .int x5)]) hx hb d_Mod_satisfy_27 hl (by decide) rfl (fun ls hl => ?_)
      refine lv_iload hx hb d_Mod_satisfy_29 (lv_at hl 0 rfl) ?_
      refine lv_if_ge (tgt := 37) hx hb d_Mod_satisfy_31 (by decide) (fun c20 => ?_) (fun c20 => ?_)
      · have hF := vIt c20 hF
        refine lv_iinc (v := (x2 + 1)) (lv' := [(2, .int (x2 + 1)), (6, .int (σ 17 0 j16)), (0, .ref (ad (pMod 0))), (1, .int x1), (3, .int x3), (4, .int x4), (5, .int x5)]) hx hb d_Mod_satisfy_37 hl (k := 3) rfl rfl (by decide) rfl (fun ls hl => ?_)
        refine lv_aload_n hx hb d_Mod_satisfy_40 rfl (lv_at hl 2 rfl) ?_
        refine lv_iload hx hb d_Mod_satisfy_41 (lv_at hl 1 rfl) ?_
        refine lv_iload_n hx hb d_Mod_satisfy_43 rfl (lv_at hl 3 rfl) ?_
        obtain ⟨r23, σ21, q22, hF⟩ := vB2_some hF
        refine ed_cvI (As := [.int (σ 17 0 j16), .int x1]) (rest := []) B hP hD hS hA (C_Mod_isSignaled l D ad ca (σ 17 0 j16) x1 σ r23 σ21  q22) me_Mod_isSignaled mv_Mod_isSignaled L_Mod_196 (ed_rc_Mod B hP (by decide)) ⟨rfl, rfl⟩ ⟨Nat.le_of_ble_eq_true rfl, Nat.le_of_ble_eq_true rfl⟩ rfl rfl hl.1 (lv_room (Nat.le_of_ble_eq_true rfl)) d_Mod_satisfy_44 (fun H locs hP hD hS => ?_)
        refine lv_if_ne (tgt := 53) hx hb d_Mod_satisfy_47 (by decide) (fun c24 => ?_) (fun c24 => ?_)
        · have hF := vIf c24 hF
          refine lv_iinc (v := (x3 + 1)) (lv' := [(3, .int (x3 + 1)), (2, .int (x2 + 1)), (6, .int (σ 17 0 j16)), (0, .ref (ad (pMod 0))), (1, .int x1), (4, .int x4), (5, .int x5)]) hx hb d_Mod_satisfy_53 hl (k := 4) rfl rfl (by decide) rfl (fun ls hl => ?_)
          refine lv_iload hx hb d_Mod_satisfy_56 (lv_at hl 5 rfl) ?_
          refine lv_if_ge (tgt := 65) hx hb d_Mod_satisfy_58 (by decide) (fun c25 => ?_) (fun c25 => ?_)
          · have hF := vIt c25 hF
            refine lv_iinc (v := (x5 + 1)) (lv' := [(5, .int (x5 + 1)), (3, .int (x3 + 1)), (2, .int (x2 + 1)), (6, .int (σ 17 0 j16)), (0, .ref (ad (pMod 0))), (1, .int x1), (4, .int x4)]) hx hb d_Mod_satisfy_65 hl (k := 6) rfl rfl (by decide) rfl (fun ls hl => ?_)
            refine lv_goto (tgt := 10) hx hb d_Mod_satisfy_68 (by decide) ?_
            exact kk10 x1 (x2 + 1) (x3 + 1) x4 (x5 + 1) σ21  hF _ _ _ hP hD hS (lv_sub hl [4, 5, 2, 1, 6, 0] rfl)
          · have hF := vIf c25 hF
            refine lv_iload hx hb d_Mod_satisfy_61 (lv_at hl 6 rfl) ?_
            refine lv_istore (lv' := [(4, .int x5), (3, .int (x3 + 1)), (2, .int (x2 + 1)), (6, .int (σ 17 0 j16)), (0, .ref (ad (pMod 0))), (1, .int x1), (5, .int x5)]) hx hb d_Mod_satisfy_63 hl (by decide) rfl (fun ls hl => ?_)
            refine lv_iinc (v := (x5 + 1)) (lv' := [(5, .int (x5 + 1)), (4, .int x5), (3, .int (x3 + 1)), (2, .int (x2 + 1)), (6, .int (σ 17 0 j16)), (0, .ref (ad (pMod 0))), (1, .int x1)]) hx hb d_Mod_satisfy_65 hl (k := 6) rfl rfl (by decide) rfl (fun ls hl => ?_)
            refine lv_goto (tgt := 10) hx hb d_Mod_satisfy_68 (by decide) ?_
            exact kk10 x1 (x2 + 1) (x3 + 1) x5 (x5 + 1) σ21  hF _ _ _ hP hD hS (lv_sub hl [5, 6, 3, 2, 1, 0] rfl)
        · have hF := vIt c24 hF
          refine lv_goto (tgt := 65) hx hb d_Mod_satisfy_50 (by decide) ?_
          refine lv_iinc (v := (x5 + 1)) (lv' := [(5, .int (x5 + 1)), (2, .int (x2 + 1)), (6, .int (σ 17 0 j16)), (0, .ref (ad (pMod 0))), (1, .int x1), (3, .int x3), (4, .int x4)]) hx hb d_Mod_satisfy_65 hl (k := 6) rfl rfl (by decide) rfl (fun ls hl => ?_)
          refine lv_goto (tgt := 10) hx hb d_Mod_satisfy_68 (by decide) ?_
          exact kk10 x1 (x2 + 1) x3 x4 (x5 + 1) σ21  hF _ _ _ hP hD hS (lv_sub hl [3, 4, 1, 5, 6, 0] rfl)
      · have hF := vIf c20 hF
        refine lv_goto (tgt := 65) hx hb d_Mod_satisfy_34 (by decide) ?_
        refine lv_iinc (v := (x5 + 1)) (lv' := [(5, .int (x5 + 1)), (6, .int (σ 17 0 j16)), (0, .ref (ad (pMod 0))), (1, .int x1), (2, .int x2), (3, .int x3), (4, .int x4)]) hx hb d_Mod_satisfy_65 hl (k := 6) rfl rfl (by decide) rfl (fun ls hl => ?_)
        refine lv_goto (tgt := 10) hx hb d_Mod_satisfy_68 (by decide) ?_
        exact kk10 x1 x2 x3 x4 (x5 + 1) σ  hF _ _ _ hP hD hS (lv_sub hl [2, 3, 4, 5, 6, 0] rfl)
set_option maxHeartbeats 4000000 in
set_option maxRecDepth 100000 in
theorem T_Mod_satisfy {r : Int32} {σ' : ed_S} (B : ed_B p s m args meth c prog_10_method_20_code "ExecutiveDeskModel" 7 D ca) (hr : meth.sig.returnType = (some .int)) (hA : ∀ q : Nat, s.heap.size ≤ q → A q) : ∀ (x1 : Int32) (σ : ed_S), F_Mod_satisfy  x1 σ = some (r, σ') → ed_G p l e rm_Mod_satisfy s m args below meth c D ca (md_w ad ca) A (ed_QI D ca (md_w ad ca) A below args s r σ') 7 0 [(0, .ref (ad (pMod 0))), (1, .int x1)] [] σ := by
  have hx := B.1
  have hb := B.2.1
  intro x1 σ  hF H locs ls hP hD hS hl
  have hF : (F_Mod_satisfy_10  ed_fu x1 0 0 (-1) 0 σ) = some (r, σ') := hF
  refine lv_iconst (v := 0) hx hb d_Mod_satisfy_0 (by decide) ?_
  refine lv_istore_n (lv' := [(2, .int 0), (0, .ref (ad (pMod 0))), (1, .int x1)]) hx hb d_Mod_satisfy_1 rfl hl (by decide) rfl (fun ls hl => ?_)
  refine lv_iconst (v := 0) hx hb d_Mod_satisfy_2 (by decide) ?_
  refine lv_istore_n (lv' := [(3, .int 0), (2, .int 0), (0, .ref (ad (pMod 0))), (1, .int x1)]) hx hb d_Mod_satisfy_3 rfl hl (by decide) rfl (fun ls hl => ?_)
  refine lv_iconst (v := (-1)) hx hb d_Mod_satisfy_4 (by decide) ?_
  refine lv_istore (lv' := [(4, .int (-1)), (3, .int 0), (2, .int 0), (0, .ref (ad (pMod 0))), (1, .int x1)]) hx hb d_Mod_satisfy_5 hl (by decide) rfl (fun ls hl => ?_)
  refine lv_iconst (v := 0) hx hb d_Mod_satisfy_7 (by decide) ?_
  refine lv_istore (lv' := [(5, .int 0), (4, .int (-1)), (3, .int 0), (2, .int 0), (0, .ref (ad (pMod 0))), (1, .int x1)]) hx hb d_Mod_satisfy_8 hl (by decide) rfl (fun ls hl => ?_)
  exact T_Mod_satisfy_10 B hr hA  ed_fu x1 0 0 (-1) 0 σ  hF _ _ _ hP hD hS (lv_sub hl [4, 5, 3, 2, 1, 0] rfl)
set_option maxHeartbeats 4000000 in
set_option maxRecDepth 100000 in
theorem C_Mod_satisfy (l : Launch) (D : va_G) (ad : Nat → Nat) (ca : Nat → ClassId) (x1 : Int32) (σ : ed_S) (r : Int32) (σ' : ed_S) (hF : F_Mod_satisfy x1 σ = some (r, σ')) : ed_MI l y_Mod_satisfy ws_Mod_satisfy rm_Mod_satisfy D ca (md_w ad ca) [.ref (ad (pMod 0)), .int x1] σ r σ' := by
  refine ed_metI (cc := prog_10_method_20_code) (own := "ExecutiveDeskModel") (nL := 7) (ret := (some .int)) (by decide) rfl rfl (Nat.le_of_ble_eq_true rfl) ?_
  intro p e s m args below meth c A B hr hA
  exact T_Mod_satisfy B hr hA x1 σ  hF
abbrev ws_Mod_go : List Cond := Cond.code y_Mod_go prog_10_method_21_code 3 none :: ed_tb
abbrev rm_Mod_go : Room := { frames := 1, cells := 0, slots := 0, locals := 21 }
def F_Mod_go (x1 : Int32) (x2 : Int32) (σ : ed_S) : Option ed_S := (vG x1 8 fun j1 => vL (ed_st σ 8 0 j1 x2) fun σ5 => (vG x1 8 fun j7 => vL (ed_st σ5 13 0 j7 (-1)) fun σ11 => (vB1 (F_Mod_ready x1 σ11) fun σ13 => (some σ13))))
set_option maxHeartbeats 4000000 in
set_option maxRecDepth 100000 in
theorem T_Mod_go {σ' : ed_S} (B : ed_B p s m args meth c prog_10_method_21_code "ExecutiveDeskModel" 3 D ca) (hr : meth.sig.returnType = none) (hA : ∀ q : Nat, s.heap.size ≤ q → A q) : ∀ (x1 : Int32) (x2 : Int32) (σ : ed_S), F_Mod_go  x1 x2 σ = some σ' → ed_G p l e rm_Mod_go s m args below meth c D ca (md_w ad ca) A (ed_QV D ca (md_w ad ca) A below args s σ') 3 0 [(0, .ref (ad (pMod 0))), (1, .int x1), (2, .int x2)] [] σ := by
  have hx := B.1
  have hb := B.2.1
  intro x1 x2 σ  hF H locs ls hP hD hS hl
  have hF : (vG x1 8 fun j1 => vL (ed_st σ 8 0 j1 x2) fun σ5 => (vG x1 8 fun j7 => vL (ed_st σ5 13 0 j7 (-1)) fun σ11 => (vB1 (F_Mod_ready x1 σ11) fun σ13 => (some σ13)))) = some σ' := hF
  refine lv_aload_n hx hb d_Mod_go_0 rfl (lv_at hl 0 rfl) ?_
  refine gf_Mod_result B hP (by decide) L_Mod_34 d_Mod_go_1 ?_
  refine lv_iload_n hx hb d_Mod_go_4 rfl (lv_at hl 1 rfl) ?_
  refine lv_iload_n hx hb d_Mod_go_5 rfl (lv_at hl 2 rfl) ?_
  obtain ⟨j1, ej2, hj3, hn4, hF⟩ := vG_some hF
  obtain ⟨σ5, e6, hF⟩ := vL_some hF
  refine is_Mresult B hP hD hS (by decide) hn4 ej2 e6 d_Mod_go_6 (fun H locs hP hD hS => ?_)
  refine lv_aload_n hx hb d_Mod_go_7 rfl (lv_at hl 0 rfl) ?_
  refine gf_Mod_due B hP (by decide) L_Mod_49 d_Mod_go_8 ?_
  refine lv_iload_n hx hb d_Mod_go_11 rfl (lv_at hl 1 rfl) ?_
  refine lv_iconst (v := (-1)) hx hb d_Mod_go_12 (by decide) ?_
  obtain ⟨j7, ej8, hj9, hn10, hF⟩ := vG_some hF
  obtain ⟨σ11, e12, hF⟩ := vL_some hF
  refine is_Mdue B hP hD hS (by decide) hn10 ej8 e12 d_Mod_go_13 (fun H locs hP hD hS => ?_)
  refine lv_aload_n hx hb d_Mod_go_14 rfl (lv_at hl 0 rfl) ?_
  refine lv_iload_n hx hb d_Mod_go_15 rfl (lv_at hl 1 rfl) ?_
  obtain ⟨σ13, q14, hF⟩ := vB1_some hF
  refine ed_cvV (As := [.int x1]) (rest := []) B hP hD hS hA (C_Mod_ready l D ad ca x1 σ11 σ13  q14) me_Mod_ready mv_Mod_ready L_Mod_164 (ed_rc_Mod B hP (by decide)) ⟨rfl, rfl⟩ ⟨Nat.le_of_ble_eq_true rfl, Nat.le_of_ble_eq_true rfl⟩ rfl rfl hl.1 (lv_room (Nat.le_of_ble_eq_true rfl)) d_Mod_go_16 (fun H locs hP hD hS => ?_)
  exact ed_rV B hr hA hP hD hS (Option.some.inj hF) d_Mod_go_19
set_option maxHeartbeats 4000000 in
set_option maxRecDepth 100000 in
theorem C_Mod_go (l : Launch) (D : va_G) (ad : Nat → Nat) (ca : Nat → ClassId) (x1 : Int32) (x2 : Int32) (σ : ed_S) (σ' : ed_S) (hF : F_Mod_go x1 x2 σ = some σ') : ed_MV l y_Mod_go ws_Mod_go rm_Mod_go D ca (md_w ad ca) [.ref (ad (pMod 0)), .int x1, .int x2] σ σ' := by
  refine ed_metV (cc := prog_10_method_21_code) (own := "ExecutiveDeskModel") (nL := 3) (ret := none) (by decide) rfl rfl (Nat.le_of_ble_eq_true rfl) ?_
  intro p e s m args below meth c A B hr hA
  exact T_Mod_go B hr hA x1 x2 σ  hF
abbrev ws_Mod_waiter : List Cond := Cond.code y_Mod_waiter prog_10_method_23_code 4 (some .int) :: ed_tb
abbrev rm_Mod_waiter : Room := { frames := 0, cells := 0, slots := 0, locals := 0 }
def F_Mod_waiter_4 : Nat → Int32 → Int32 → Int32 → ed_S → Option (Int32 × ed_S)
  | 0, _, _, _, _ => none
  | n + 1, x1, x2, x3, σ => (if (σ 43 0 0) ≤ x3 then (some (x2, σ)) else (vG x3 8 fun j2 => (if (σ 7 0 j2) = 2 then (vG x3 8 fun j7 => (if (σ 15 0 j7) ≤ x1 then ((F_Mod_waiter_4  n) x1 x2 (x3 + 1) σ) else (if x2 < 0 then ((F_Mod_waiter_4  n) x1 x3 (x3 + 1) σ) else (vG x3 8 fun j13 => (vG x2 8 fun j17 => (if (σ 15 0 j17) ≤ (σ 15 0 j13) then ((F_Mod_waiter_4  n) x1 x2 (x3 + 1) σ) else ((F_Mod_waiter_4  n) x1 x3 (x3 + 1) σ))))))) else ((F_Mod_waiter_4  n) x1 x2 (x3 + 1) σ))))
def F_Mod_waiter (x1 : Int32) (σ : ed_S) : Option (Int32 × ed_S) := (F_Mod_waiter_4  ed_fu x1 (-1) 0 σ)
set_option maxHeartbeats 4000000 in
set_option maxRecDepth 100000 in
theorem T_Mod_waiter_4 {r : Int32} {σ' : ed_S} (B : ed_B p s m args meth c prog_10_method_23_code "ExecutiveDeskModel" 4 D ca) (hr : meth.sig.returnType = (some .int)) (hA : ∀ q : Nat, s.heap.size ≤ q → A q) : ∀ (n : Nat) (x1 : Int32) (x2 : Int32) (x3 : Int32) (σ : ed_S), F_Mod_waiter_4  n x1 x2 x3 σ = some (r, σ') → ed_G p l e rm_Mod_waiter s m args below meth c D ca (md_w ad ca) A (ed_QI D ca (md_w ad ca) A below args s r σ') 4 4 [(0, .ref (ad (pMod 0))), (1, .int x1), (2, .int x2), (3, .int x3)] [] σ := by
  have hx := B.1
  have hb := B.2.1
  intro n
  induction n with
  | zero => intro x1 x2 x3 σ  hF; exact absurd hF (by intro h; cases h)
  | succ n kk4 =>
    intro x1 x2 x3 σ  hF H locs ls hP hD hS hl
    have hF : (if (σ 43 0 0) ≤ x3 then (some (x2, σ)) else (vG x3 8 fun j2 => (if (σ 7 0 j2) = 2 then (vG x3 8 fun j7 => (if (σ 15 0 j7) ≤ x1 then ((F_Mod_waiter_4  n) x1 x2 (x3 + 1) σ) else (if x2 < 0 then ((F_Mod_waiter_4  n) x1 x3 (x3 + 1) σ) else (vG x3 8 fun j13 => (vG x2 8 fun j17 => (if (σ 15 0 j17) ≤ (σ 15 0 j13) then ((F_Mod_waiter_4  n) x1 x2 (x3 + 1) σ) else ((F_Mod_waiter_4  n) x1 x3 (x3 + 1) σ))))))) else ((F_Mod_waiter_4  n) x1 x2 (x3 + 1) σ)))) = some (r, σ') := hF
    refine lv_iload_n hx hb d_Mod_waiter_4 rfl (lv_at hl 3 rfl) ?_
    refine lv_aload_n hx hb d_Mod_waiter_5 rfl (lv_at hl 0 rfl) ?_
    refine gf_Mod_threads B hP (by decide) L_Mod_144 d_Mod_waiter_6 ?_
    refine lv_icmp_ge (tgt := 59) hx hb d_Mod_waiter_9 (by decide) (fun c1 => ?_) (fun c1 => ?_)
    · have hF := vIt c1 hF
      refine lv_iload_n hx hb d_Mod_waiter_59 rfl (lv_at hl 2 rfl) ?_
      exact ed_rI B hr hA hP hD hS (vP hF) d_Mod_waiter_60
    · have hF := vIf c1 hF
      refine lv_aload_n hx hb d_Mod_waiter_12 rfl (lv_at hl 0 rfl) ?_
      refine gf_Mod_state B hP (by decide) L_Mod_31 d_Mod_waiter_13 ?_
      refine lv_iload_n hx hb d_Mod_waiter_16 rfl (lv_at hl 3 rfl) ?_
      obtain ⟨j2, ej3, hj4, hn5, hF⟩ := vG_some hF
      refine il_Mstate B hP (by decide) hn5 ej3 d_Mod_waiter_17 ?_
      refine lv_iconst (v := 2) hx hb d_Mod_waiter_18 (by decide) ?_
      refine lv_icmp_ne (tgt := 53) hx hb d_Mod_waiter_19 (by decide) (fun c6 => ?_) (fun c6 => ?_)
      · have hF := vIf c6 hF
        refine lv_iinc (v := (x3 + 1)) (lv' := [(3, .int (x3 + 1)), (0, .ref (ad (pMod 0))), (1, .int x1), (2, .int x2)]) hx hb d_Mod_waiter_53 hl (k := 3) rfl rfl (by decide) rfl (fun ls hl => ?_)
        refine lv_goto (tgt := 4) hx hb d_Mod_waiter_56 (by decide) ?_
        exact kk4 x1 x2 (x3 + 1) σ  hF _ _ _ hP hD hS (lv_sub hl [1, 2, 3, 0] rfl)
      · have hF := vIt c6 hF
        refine lv_aload_n hx hb d_Mod_waiter_22 rfl (lv_at hl 0 rfl) ?_
        refine gf_Mod_began B hP (by decide) L_Mod_55 d_Mod_waiter_23 ?_
        refine lv_iload_n hx hb d_Mod_waiter_26 rfl (lv_at hl 3 rfl) ?_
        obtain ⟨j7, ej8, hj9, hn10, hF⟩ := vG_some hF
        refine il_Mbegan B hP (by decide) hn10 ej8 d_Mod_waiter_27 ?_
        refine lv_iload_n hx hb d_Mod_waiter_28 rfl (lv_at hl 1 rfl) ?_
        refine lv_icmp_le (tgt := 53) hx hb d_Mod_waiter_29 (by decide) (fun c11 => ?_) (fun c11 => ?_)
        · have hF := vIt c11 hF
          refine lv_iinc (v := (x3 + 1)) (lv' := [(3, .int (x3 + 1)), (0, .ref (ad (pMod 0))), (1, .int x1), (2, .int x2)]) hx hb d_Mod_waiter_53 hl (k := 3) rfl rfl (by decide) rfl (fun ls hl => ?_)
          refine lv_goto (tgt := 4) hx hb d_Mod_waiter_56 (by decide) ?_
          exact kk4 x1 x2 (x3 + 1) σ  hF _ _ _ hP hD hS (lv_sub hl [1, 2, 3, 0] rfl)
        · have hF := vIf c11 hF
          refine lv_iload_n hx hb d_Mod_waiter_32 rfl (lv_at hl 2 rfl) ?_
          refine lv_if_lt (tgt := 51) hx hb d_Mod_waiter_33 (by decide) (fun c12 => ?_) (fun c12 => ?_)
          · have hF := vIt c12 hF
            refine lv_iload_n hx hb d_Mod_waiter_51 rfl (lv_at hl 3 rfl) ?_
            refine lv_istore_n (lv' := [(2, .int x3), (0, .ref (ad (pMod 0))), (1, .int x1), (3, .int x3)]) hx hb d_Mod_waiter_52 rfl hl (by decide) rfl (fun ls hl => ?_)
            refine lv_iinc (v := (x3 + 1)) (lv' := [(3, .int (x3 + 1)), (2, .int x3), (0, .ref (ad (pMod 0))), (1, .int x1)]) hx hb d_Mod_waiter_53 hl (k := 3) rfl rfl (by decide) rfl (fun ls hl => ?_)
            refine lv_goto (tgt := 4) hx hb d_Mod_waiter_56 (by decide) ?_
            exact kk4 x1 x3 (x3 + 1) σ  hF _ _ _ hP hD hS (lv_sub hl [2, 3, 1, 0] rfl)
          · have hF := vIf c12 hF
            refine lv_aload_n hx hb d_Mod_waiter_36 rfl (lv_at hl 0 rfl) ?_
            refine gf_Mod_began B hP (by decide) L_Mod_55 d_Mod_waiter_37 ?_
            refine lv_iload_n hx hb d_Mod_waiter_40 rfl (lv_at hl 3 rfl) ?_
            obtain ⟨j13, ej14, hj15, hn16, hF⟩ := vG_some hF
            refine il_Mbegan B hP (by decide) hn16 ej14 d_Mod_waiter_41 ?_
            refine lv_aload_n hx hb d_Mod_waiter_42 rfl (lv_at hl 0 rfl) ?_
            refine gf_Mod_began B hP (by decide) L_Mod_55 d_Mod_waiter_43 ?_
            refine lv_iload_n hx hb d_Mod_waiter_46 rfl (lv_at hl 2 rfl) ?_
            obtain ⟨j17, ej18, hj19, hn20, hF⟩ := vG_some hF
            refine il_Mbegan B hP (by decide) hn20 ej18 d_Mod_waiter_47 ?_
            refine lv_icmp_ge (tgt := 53) hx hb d_Mod_waiter_48 (by decide) (fun c21 => ?_) (fun c21 => ?_)
            · have hF := vIt c21 hF
              refine lv_iinc (v := (x3 + 1)) (lv' := [(3, .int (x3 + 1)), (0, .ref (ad (pMod 0))), (1, .int x1), (2, .int x2)]) hx hb d_Mod_waiter_53 hl (k := 3) rfl rfl (by decide) rfl (fun ls hl => ?_)
              refine lv_goto (tgt := 4) hx hb d_Mod_waiter_56 (by decide) ?_
              exact kk4 x1 x2 (x3 + 1) σ  hF _ _ _ hP hD hS (lv_sub hl [1, 2, 3, 0] rfl)
            · have hF := vIf c21 hF
              refine lv_iload_n hx hb d_Mod_waiter_51 rfl (lv_at hl 3 rfl) ?_
              refine lv_istore_n (lv' := [(2, .int x3), (0, .ref (ad (pMod 0))), (1, .int x1), (3, .int x3)]) hx hb d_Mod_waiter_52 rfl hl (by decide) rfl (fun ls hl => ?_)
              refine lv_iinc (v := (x3 + 1)) (lv' := [(3, .int (x3 + 1)), (2, .int x3), (0, .ref (ad (pMod 0))), (1, .int x1)]) hx hb d_Mod_waiter_53 hl (k := 3) rfl rfl (by decide) rfl (fun ls hl => ?_)
              refine lv_goto (tgt := 4) hx hb d_Mod_waiter_56 (by decide) ?_
              exact kk4 x1 x3 (x3 + 1) σ  hF _ _ _ hP hD hS (lv_sub hl [2, 3, 1, 0] rfl)
set_option maxHeartbeats 4000000 in
set_option maxRecDepth 100000 in
theorem T_Mod_waiter {r : Int32} {σ' : ed_S} (B : ed_B p s m args meth c prog_10_method_23_code "ExecutiveDeskModel" 4 D ca) (hr : meth.sig.returnType = (some .int)) (hA : ∀ q : Nat, s.heap.size ≤ q → A q) : ∀ (x1 : Int32) (σ : ed_S), F_Mod_waiter  x1 σ = some (r, σ') → ed_G p l e rm_Mod_waiter s m args below meth c D ca (md_w ad ca) A (ed_QI D ca (md_w ad ca) A below args s r σ') 4 0 [(0, .ref (ad (pMod 0))), (1, .int x1)] [] σ := by
  have hx := B.1
  have hb := B.2.1
  intro x1 σ  hF H locs ls hP hD hS hl
  have hF : (F_Mod_waiter_4  ed_fu x1 (-1) 0 σ) = some (r, σ') := hF
  refine lv_iconst (v := (-1)) hx hb d_Mod_waiter_0 (by decide) ?_
  refine lv_istore_n (lv' := [(2, .int (-1)), (0, .ref (ad (pMod 0))), (1, .int x1)]) hx hb d_Mod_waiter_1 rfl hl (by decide) rfl (fun ls hl => ?_)
  refine lv_iconst (v := 0) hx hb d_Mod_waiter_2 (by decide) ?_
  refine lv_istore_n (lv' := [(3, .int 0), (2, .int (-1)), (0, .ref (ad (pMod 0))), (1, .int x1)]) hx hb d_Mod_waiter_3 rfl hl (by decide) rfl (fun ls hl => ?_)
  exact T_Mod_waiter_4 B hr hA  ed_fu x1 (-1) 0 σ  hF _ _ _ hP hD hS (lv_sub hl [2, 3, 1, 0] rfl)
set_option maxHeartbeats 4000000 in
set_option maxRecDepth 100000 in
theorem C_Mod_waiter (l : Launch) (D : va_G) (ad : Nat → Nat) (ca : Nat → ClassId) (x1 : Int32) (σ : ed_S) (r : Int32) (σ' : ed_S) (hF : F_Mod_waiter x1 σ = some (r, σ')) : ed_MI l y_Mod_waiter ws_Mod_waiter rm_Mod_waiter D ca (md_w ad ca) [.ref (ad (pMod 0)), .int x1] σ r σ' := by
  refine ed_metI (cc := prog_10_method_23_code) (own := "ExecutiveDeskModel") (nL := 4) (ret := (some .int)) (by decide) rfl rfl (Nat.le_of_ble_eq_true rfl) ?_
  intro p e s m args below meth c A B hr hA
  exact T_Mod_waiter B hr hA x1 σ  hF
abbrev ws_Mod_release : List Cond := Cond.code y_Mod_release prog_10_method_22_code 4 none :: ed_tb
abbrev rm_Mod_release : Room := { frames := 2, cells := 0, slots := 0, locals := 49 }
def F_Mod_release_8 : Nat → Int32 → Int32 → ed_S → Option ed_S
  | 0, _, _, _ => none
  | n + 1, x1, x2, σ => (if x2 < 0 then (some σ) else (vG x2 8 fun j2 => (vB2 (F_Mod_satisfy x2 σ) fun r8 σ6 => (if r8 < 0 then (vB2 (F_Mod_waiter (σ 15 0 j2) σ6) fun r12 σ10 => ((F_Mod_release_8  n) (σ 15 0 j2) r12 σ10)) else (vB1 (F_Mod_go x2 r8 σ6) fun σ13 => (vB2 (F_Mod_waiter (σ 15 0 j2) σ13) fun r17 σ15 => ((F_Mod_release_8  n) (σ 15 0 j2) r17 σ15)))))))
def F_Mod_release (σ : ed_S) : Option ed_S := (vB2 (F_Mod_waiter (-1) σ) fun r3 σ1 => (F_Mod_release_8  ed_fu (-1) r3 σ1))
set_option maxHeartbeats 4000000 in
set_option maxRecDepth 100000 in
theorem T_Mod_release_8 {σ' : ed_S} (B : ed_B p s m args meth c prog_10_method_22_code "ExecutiveDeskModel" 4 D ca) (hr : meth.sig.returnType = none) (hA : ∀ q : Nat, s.heap.size ≤ q → A q) : ∀ (n : Nat) (x1 : Int32) (x2 : Int32) (σ : ed_S), F_Mod_release_8  n x1 x2 σ = some σ' → ed_G p l e rm_Mod_release s m args below meth c D ca (md_w ad ca) A (ed_QV D ca (md_w ad ca) A below args s σ') 4 8 [(0, .ref (ad (pMod 0))), (1, .int x1), (2, .int x2)] [] σ := by
  have hx := B.1
  have hb := B.2.1
  intro n
  induction n with
  | zero => intro x1 x2 σ  hF; exact absurd hF (by intro h; cases h)
  | succ n kk8 =>
    intro x1 x2 σ  hF H locs ls hP hD hS hl
    have hF : (if x2 < 0 then (some σ) else (vG x2 8 fun j2 => (vB2 (F_Mod_satisfy x2 σ) fun r8 σ6 => (if r8 < 0 then (vB2 (F_Mod_waiter (σ 15 0 j2) σ6) fun r12 σ10 => ((F_Mod_release_8  n) (σ 15 0 j2) r12 σ10)) else (vB1 (F_Mod_go x2 r8 σ6) fun σ13 => (vB2 (F_Mod_waiter (σ 15 0 j2) σ13) fun r17 σ15 => ((F_Mod_release_8  n) (σ 15 0 j2) r17 σ15))))))) = some σ' := hF
    refine lv_iload_n hx hb d_Mod_release_8 rfl (lv_at hl 2 rfl) ?_
    refine lv_if_lt (tgt := 44) hx hb d_Mod_release_9 (by decide) (fun c1 => ?_) (fun c1 => ?_)
    · have hF := vIt c1 hF
      exact ed_rV B hr hA hP hD hS (Option.some.inj hF) d_Mod_release_44
    · have hF := vIf c1 hF
      refine lv_aload_n hx hb d_Mod_release_12 rfl (lv_at hl 0 rfl) ?_
      refine gf_Mod_began B hP (by decide) L_Mod_55 d_Mod_release_13 ?_
      refine lv_iload_n hx hb d_Mod_release_16 rfl (lv_at hl 2 rfl) ?_
      obtain ⟨j2, ej3, hj4, hn5, hF⟩ := vG_some hF
      refine il_Mbegan B hP (by decide) hn5 ej3 d_Mod_release_17 ?_
      refine lv_istore_n (lv' := [(1, .int (σ 15 0 j2)), (0, .ref (ad (pMod 0))), (2, .int x2)]) hx hb d_Mod_release_18 rfl hl (by decide) rfl (fun ls hl => ?_)
      refine lv_aload_n hx hb d_Mod_release_19 rfl (lv_at hl 1 rfl) ?_
      refine lv_iload_n hx hb d_Mod_release_20 rfl (lv_at hl 2 rfl) ?_
      obtain ⟨r8, σ6, q7, hF⟩ := vB2_some hF
      refine ed_cvI (As := [.int x2]) (rest := []) B hP hD hS hA (C_Mod_satisfy l D ad ca x2 σ r8 σ6  q7) me_Mod_satisfy mv_Mod_satisfy L_Mod_207 (ed_rc_Mod B hP (by decide)) ⟨rfl, rfl⟩ ⟨Nat.le_of_ble_eq_true rfl, Nat.le_of_ble_eq_true rfl⟩ rfl rfl hl.1 (lv_room (Nat.le_of_ble_eq_true rfl)) d_Mod_release_21 (fun H locs hP hD hS => ?_)
      refine lv_istore_n (lv' := [(3, .int r8), (1, .int (σ 15 0 j2)), (0, .ref (ad (pMod 0))), (2, .int x2)]) hx hb d_Mod_release_24 rfl hl (by decide) rfl (fun ls hl => ?_)
      refine lv_iload_n hx hb d_Mod_release_25 rfl (lv_at hl 0 rfl) ?_
      refine lv_if_lt (tgt := 35) hx hb d_Mod_release_26 (by decide) (fun c9 => ?_) (fun c9 => ?_)
      · have hF := vIt c9 hF
        refine lv_aload_n hx hb d_Mod_release_35 rfl (lv_at hl 2 rfl) ?_
        refine lv_iload_n hx hb d_Mod_release_36 rfl (lv_at hl 1 rfl) ?_
        obtain ⟨r12, σ10, q11, hF⟩ := vB2_some hF
        refine ed_cvI (As := [.int (σ 15 0 j2)]) (rest := []) B hP hD hS hA (C_Mod_waiter l D ad ca (σ 15 0 j2) σ6 r12 σ10  q11) me_Mod_waiter mv_Mod_waiter L_Mod_204 (ed_rc_Mod B hP (by decide)) ⟨rfl, rfl⟩ ⟨Nat.le_of_ble_eq_true rfl, Nat.le_of_ble_eq_true rfl⟩ rfl rfl hl.1 (lv_room (Nat.le_of_ble_eq_true rfl)) d_Mod_release_37 (fun H locs hP hD hS => ?_)
        refine lv_istore_n (lv' := [(2, .int r12), (3, .int r8), (1, .int (σ 15 0 j2)), (0, .ref (ad (pMod 0)))]) hx hb d_Mod_release_40 rfl hl (by decide) rfl (fun ls hl => ?_)
        refine lv_goto (tgt := 8) hx hb d_Mod_release_41 (by decide) ?_
        exact kk8 (σ 15 0 j2) r12 σ10  hF _ _ _ hP hD hS (lv_sub hl [3, 2, 0] rfl)
      · have hF := vIf c9 hF
        refine lv_aload_n hx hb d_Mod_release_29 rfl (lv_at hl 2 rfl) ?_
        refine lv_iload_n hx hb d_Mod_release_30 rfl (lv_at hl 3 rfl) ?_
        refine lv_iload_n hx hb d_Mod_release_31 rfl (lv_at hl 0 rfl) ?_
        obtain ⟨σ13, q14, hF⟩ := vB1_some hF
        refine ed_cvV (As := [.int x2, .int r8]) (rest := []) B hP hD hS hA (C_Mod_go l D ad ca x2 r8 σ6 σ13  q14) me_Mod_go mv_Mod_go L_Mod_210 (ed_rc_Mod B hP (by decide)) ⟨rfl, rfl⟩ ⟨Nat.le_of_ble_eq_true rfl, Nat.le_of_ble_eq_true rfl⟩ rfl rfl hl.1 (lv_room (Nat.le_of_ble_eq_true rfl)) d_Mod_release_32 (fun H locs hP hD hS => ?_)
        refine lv_aload_n hx hb d_Mod_release_35 rfl (lv_at hl 2 rfl) ?_
        refine lv_iload_n hx hb d_Mod_release_36 rfl (lv_at hl 1 rfl) ?_
        obtain ⟨r17, σ15, q16, hF⟩ := vB2_some hF
        refine ed_cvI (As := [.int (σ 15 0 j2)]) (rest := []) B hP hD hS hA (C_Mod_waiter l D ad ca (σ 15 0 j2) σ13 r17 σ15  q16) me_Mod_waiter mv_Mod_waiter L_Mod_204 (ed_rc_Mod B hP (by decide)) ⟨rfl, rfl⟩ ⟨Nat.le_of_ble_eq_true rfl, Nat.le_of_ble_eq_true rfl⟩ rfl rfl hl.1 (lv_room (Nat.le_of_ble_eq_true rfl)) d_Mod_release_37 (fun H locs hP hD hS => ?_)
        refine lv_istore_n (lv' := [(2, .int r17), (3, .int r8), (1, .int (σ 15 0 j2)), (0, .ref (ad (pMod 0)))]) hx hb d_Mod_release_40 rfl hl (by decide) rfl (fun ls hl => ?_)
        refine lv_goto (tgt := 8) hx hb d_Mod_release_41 (by decide) ?_
        exact kk8 (σ 15 0 j2) r17 σ15  hF _ _ _ hP hD hS (lv_sub hl [3, 2, 0] rfl)
set_option maxHeartbeats 4000000 in
set_option maxRecDepth 100000 in
theorem T_Mod_release {σ' : ed_S} (B : ed_B p s m args meth c prog_10_method_22_code "ExecutiveDeskModel" 4 D ca) (hr : meth.sig.returnType = none) (hA : ∀ q : Nat, s.heap.size ≤ q → A q) : ∀ (σ : ed_S), F_Mod_release   σ = some σ' → ed_G p l e rm_Mod_release s m args below meth c D ca (md_w ad ca) A (ed_QV D ca (md_w ad ca) A below args s σ') 4 0 [(0, .ref (ad (pMod 0)))] [] σ := by
  have hx := B.1
  have hb := B.2.1
  intro  σ  hF H locs ls hP hD hS hl
  have hF : (vB2 (F_Mod_waiter (-1) σ) fun r3 σ1 => (F_Mod_release_8  ed_fu (-1) r3 σ1)) = some σ' := hF
  refine lv_iconst (v := (-1)) hx hb d_Mod_release_0 (by decide) ?_
  refine lv_istore_n (lv' := [(1, .int (-1)), (0, .ref (ad (pMod 0)))]) hx hb d_Mod_release_1 rfl hl (by decide) rfl (fun ls hl => ?_)
  refine lv_aload_n hx hb d_Mod_release_2 rfl (lv_at hl 1 rfl) ?_
  refine lv_iload_n hx hb d_Mod_release_3 rfl (lv_at hl 0 rfl) ?_
  obtain ⟨r3, σ1, q2, hF⟩ := vB2_some hF
  refine ed_cvI (As := [.int (-1)]) (rest := []) B hP hD hS hA (C_Mod_waiter l D ad ca (-1) σ r3 σ1  q2) me_Mod_waiter mv_Mod_waiter L_Mod_204 (ed_rc_Mod B hP (by decide)) ⟨rfl, rfl⟩ ⟨Nat.le_of_ble_eq_true rfl, Nat.le_of_ble_eq_true rfl⟩ rfl rfl hl.1 (lv_room (Nat.le_of_ble_eq_true rfl)) d_Mod_release_4 (fun H locs hP hD hS => ?_)
  refine lv_istore_n (lv' := [(2, .int r3), (1, .int (-1)), (0, .ref (ad (pMod 0)))]) hx hb d_Mod_release_7 rfl hl (by decide) rfl (fun ls hl => ?_)
  exact T_Mod_release_8 B hr hA  ed_fu (-1) r3 σ1  hF _ _ _ hP hD hS (lv_sub hl [2, 1, 0] rfl)
set_option maxHeartbeats 4000000 in
set_option maxRecDepth 100000 in
theorem C_Mod_release (l : Launch) (D : va_G) (ad : Nat → Nat) (ca : Nat → ClassId) (σ : ed_S) (σ' : ed_S) (hF : F_Mod_release  σ = some σ') : ed_MV l y_Mod_release ws_Mod_release rm_Mod_release D ca (md_w ad ca) [.ref (ad (pMod 0))] σ σ' := by
  refine ed_metV (cc := prog_10_method_22_code) (own := "ExecutiveDeskModel") (nL := 4) (ret := none) (by decide) rfl rfl (Nat.le_of_ble_eq_true rfl) ?_
  intro p e s m args below meth c A B hr hA
  exact T_Mod_release B hr hA  σ  hF
abbrev ws_Mod_signal : List Cond := Cond.code y_Mod_signal prog_10_method_24_code 2 none :: ed_tb
abbrev rm_Mod_signal : Room := { frames := 3, cells := 0, slots := 0, locals := 72 }
def F_Mod_signal (x1 : Int32) (σ : ed_S) : Option ed_S := (vG x1 16 fun j1 => vL (ed_st σ 20 0 j1 1) fun σ5 => (vB1 (F_Mod_release  σ5) fun σ7 => (some σ7)))
set_option maxHeartbeats 4000000 in
set_option maxRecDepth 100000 in
theorem T_Mod_signal {σ' : ed_S} (B : ed_B p s m args meth c prog_10_method_24_code "ExecutiveDeskModel" 2 D ca) (hr : meth.sig.returnType = none) (hA : ∀ q : Nat, s.heap.size ≤ q → A q) : ∀ (x1 : Int32) (σ : ed_S), F_Mod_signal  x1 σ = some σ' → ed_G p l e rm_Mod_signal s m args below meth c D ca (md_w ad ca) A (ed_QV D ca (md_w ad ca) A below args s σ') 2 0 [(0, .ref (ad (pMod 0))), (1, .int x1)] [] σ := by
  have hx := B.1
  have hb := B.2.1
  intro x1 σ  hF H locs ls hP hD hS hl
  have hF : (vG x1 16 fun j1 => vL (ed_st σ 20 0 j1 1) fun σ5 => (vB1 (F_Mod_release  σ5) fun σ7 => (some σ7))) = some σ' := hF
  refine lv_aload_n hx hb d_Mod_signal_0 rfl (lv_at hl 0 rfl) ?_
  refine gf_Mod_isSet B hP (by decide) L_Mod_71 d_Mod_signal_1 ?_
  refine lv_iload_n hx hb d_Mod_signal_4 rfl (lv_at hl 1 rfl) ?_
  refine lv_iconst (v := 1) hx hb d_Mod_signal_5 (by decide) ?_
  obtain ⟨j1, ej2, hj3, hn4, hF⟩ := vG_some hF
  obtain ⟨σ5, e6, hF⟩ := vL_some hF
  refine is_MisSet B hP hD hS (by decide) hn4 ej2 (by decide) e6 d_Mod_signal_6 (fun H locs hP hD hS => ?_)
  refine lv_aload_n hx hb d_Mod_signal_7 rfl (lv_at hl 0 rfl) ?_
  obtain ⟨σ7, q8, hF⟩ := vB1_some hF
  refine ed_cvV (As := []) (rest := []) B hP hD hS hA (C_Mod_release l D ad ca  σ5 σ7  q8) me_Mod_release mv_Mod_release L_Mod_214 (ed_rc_Mod B hP (by decide)) ⟨rfl, rfl⟩ ⟨Nat.le_of_ble_eq_true rfl, Nat.le_of_ble_eq_true rfl⟩ rfl rfl hl.1 (lv_room (Nat.le_of_ble_eq_true rfl)) d_Mod_signal_8 (fun H locs hP hD hS => ?_)
  exact ed_rV B hr hA hP hD hS (Option.some.inj hF) d_Mod_signal_11
set_option maxHeartbeats 4000000 in
set_option maxRecDepth 100000 in
theorem C_Mod_signal (l : Launch) (D : va_G) (ad : Nat → Nat) (ca : Nat → ClassId) (x1 : Int32) (σ : ed_S) (σ' : ed_S) (hF : F_Mod_signal x1 σ = some σ') : ed_MV l y_Mod_signal ws_Mod_signal rm_Mod_signal D ca (md_w ad ca) [.ref (ad (pMod 0)), .int x1] σ σ' := by
  refine ed_metV (cc := prog_10_method_24_code) (own := "ExecutiveDeskModel") (nL := 2) (ret := none) (by decide) rfl rfl (Nat.le_of_ble_eq_true rfl) ?_
  intro p e s m args below meth c A B hr hA
  exact T_Mod_signal B hr hA x1 σ  hF
abbrev ws_Mod_deliver : List Cond := Cond.code y_Mod_deliver prog_10_method_25_code 2 none :: ed_tb
abbrev rm_Mod_deliver : Room := { frames := 0, cells := 0, slots := 0, locals := 0 }
def F_Mod_deliver (x1 : Int32) (σ : ed_S) : Option ed_S := (vG x1 8 fun j1 => (if (σ 9 0 j1) = 0 then (some σ) else (vG x1 8 fun j6 => (vG x1 8 fun j10 => (vG x1 8 fun j14 => vL (ed_st σ 10 0 j14 ((σ 10 0 j6) + (σ 9 0 j10))) fun σ18 => (vG x1 8 fun j20 => (vG (((4 * x1) + (σ18 9 0 j20)) - 1) 32 fun j24 => (vG x1 8 fun j28 => vL (ed_st σ18 11 0 j28 (σ18 18 0 j24)) fun σ32 => (vG x1 8 fun j34 => vL (ed_st σ32 9 0 j34 0) fun σ38 => (some σ38))))))))))
set_option maxHeartbeats 4000000 in
set_option maxRecDepth 100000 in
theorem T_Mod_deliver {σ' : ed_S} (B : ed_B p s m args meth c prog_10_method_25_code "ExecutiveDeskModel" 2 D ca) (hr : meth.sig.returnType = none) (hA : ∀ q : Nat, s.heap.size ≤ q → A q) : ∀ (x1 : Int32) (σ : ed_S), F_Mod_deliver  x1 σ = some σ' → ed_G p l e rm_Mod_deliver s m args below meth c D ca (md_w ad ca) A (ed_QV D ca (md_w ad ca) A below args s σ') 2 0 [(0, .ref (ad (pMod 0))), (1, .int x1)] [] σ := by
  have hx := B.1
  have hb := B.2.1
  intro x1 σ  hF H locs ls hP hD hS hl
  have hF : (vG x1 8 fun j1 => (if (σ 9 0 j1) = 0 then (some σ) else (vG x1 8 fun j6 => (vG x1 8 fun j10 => (vG x1 8 fun j14 => vL (ed_st σ 10 0 j14 ((σ 10 0 j6) + (σ 9 0 j10))) fun σ18 => (vG x1 8 fun j20 => (vG (((4 * x1) + (σ18 9 0 j20)) - 1) 32 fun j24 => (vG x1 8 fun j28 => vL (ed_st σ18 11 0 j28 (σ18 18 0 j24)) fun σ32 => (vG x1 8 fun j34 => vL (ed_st σ32 9 0 j34 0) fun σ38 => (some σ38)))))))))) = some σ' := hF
  refine lv_aload_n hx hb d_Mod_deliver_0 rfl (lv_at hl 0 rfl) ?_
  refine gf_Mod_calls B hP (by decide) L_Mod_37 d_Mod_deliver_1 ?_
  refine lv_iload_n hx hb d_Mod_deliver_4 rfl (lv_at hl 1 rfl) ?_
  obtain ⟨j1, ej2, hj3, hn4, hF⟩ := vG_some hF
  refine il_Mcalls B hP (by decide) hn4 ej2 d_Mod_deliver_5 ?_
  refine lv_if_ne (tgt := 10) hx hb d_Mod_deliver_6 (by decide) (fun c5 => ?_) (fun c5 => ?_)
  · have hF := vIf c5 hF
    refine lv_aload_n hx hb d_Mod_deliver_10 rfl (lv_at hl 0 rfl) ?_
    refine gf_Mod_delivered B hP (by decide) L_Mod_40 d_Mod_deliver_11 ?_
    refine lv_iload_n hx hb d_Mod_deliver_14 rfl (lv_at hl 1 rfl) ?_
    refine lv_dup2_11 hx hb d_Mod_deliver_15 rfl rfl ?_
    obtain ⟨j6, ej7, hj8, hn9, hF⟩ := vG_some hF
    refine il_Mdelivered B hP (by decide) hn9 ej7 d_Mod_deliver_16 ?_
    refine lv_aload_n hx hb d_Mod_deliver_17 rfl (lv_at hl 0 rfl) ?_
    refine gf_Mod_calls B hP (by decide) L_Mod_37 d_Mod_deliver_18 ?_
    refine lv_iload_n hx hb d_Mod_deliver_21 rfl (lv_at hl 1 rfl) ?_
    obtain ⟨j10, ej11, hj12, hn13, hF⟩ := vG_some hF
    refine il_Mcalls B hP (by decide) hn13 ej11 d_Mod_deliver_22 ?_
    refine lv_iadd hx hb d_Mod_deliver_23 ?_
    obtain ⟨j14, ej15, hj16, hn17, hF⟩ := vG_some hF
    obtain ⟨σ18, e19, hF⟩ := vL_some hF
    refine is_Mdelivered B hP hD hS (by decide) hn17 ej15 e19 d_Mod_deliver_24 (fun H locs hP hD hS => ?_)
    refine lv_aload_n hx hb d_Mod_deliver_25 rfl (lv_at hl 0 rfl) ?_
    refine gf_Mod_latest B hP (by decide) L_Mod_43 d_Mod_deliver_26 ?_
    refine lv_iload_n hx hb d_Mod_deliver_29 rfl (lv_at hl 1 rfl) ?_
    refine lv_aload_n hx hb d_Mod_deliver_30 rfl (lv_at hl 0 rfl) ?_
    refine gf_Mod_row B hP (by decide) L_Mod_64 d_Mod_deliver_31 ?_
    refine lv_iconst (v := 4) hx hb d_Mod_deliver_34 (by decide) ?_
    refine lv_iload_n hx hb d_Mod_deliver_35 rfl (lv_at hl 1 rfl) ?_
    refine lv_imul hx hb d_Mod_deliver_36 ?_
    refine lv_aload_n hx hb d_Mod_deliver_37 rfl (lv_at hl 0 rfl) ?_
    refine gf_Mod_calls B hP (by decide) L_Mod_37 d_Mod_deliver_38 ?_
    refine lv_iload_n hx hb d_Mod_deliver_41 rfl (lv_at hl 1 rfl) ?_
    obtain ⟨j20, ej21, hj22, hn23, hF⟩ := vG_some hF
    refine il_Mcalls B hP (by decide) hn23 ej21 d_Mod_deliver_42 ?_
    refine lv_iadd hx hb d_Mod_deliver_43 ?_
    refine lv_iconst (v := 1) hx hb d_Mod_deliver_44 (by decide) ?_
    refine lv_isub hx hb d_Mod_deliver_45 ?_
    obtain ⟨j24, ej25, hj26, hn27, hF⟩ := vG_some hF
    refine il_Mrow B hP (by decide) hn27 ej25 d_Mod_deliver_46 ?_
    obtain ⟨j28, ej29, hj30, hn31, hF⟩ := vG_some hF
    obtain ⟨σ32, e33, hF⟩ := vL_some hF
    refine is_Mlatest B hP hD hS (by decide) hn31 ej29 e33 d_Mod_deliver_47 (fun H locs hP hD hS => ?_)
    refine lv_aload_n hx hb d_Mod_deliver_48 rfl (lv_at hl 0 rfl) ?_
    refine gf_Mod_calls B hP (by decide) L_Mod_37 d_Mod_deliver_49 ?_
    refine lv_iload_n hx hb d_Mod_deliver_52 rfl (lv_at hl 1 rfl) ?_
    refine lv_iconst (v := 0) hx hb d_Mod_deliver_53 (by decide) ?_
    obtain ⟨j34, ej35, hj36, hn37, hF⟩ := vG_some hF
    obtain ⟨σ38, e39, hF⟩ := vL_some hF
    refine is_Mcalls B hP hD hS (by decide) hn37 ej35 e39 d_Mod_deliver_54 (fun H locs hP hD hS => ?_)
    exact ed_rV B hr hA hP hD hS (Option.some.inj hF) d_Mod_deliver_55
  · have hF := vIt c5 hF
    exact ed_rV B hr hA hP hD hS (Option.some.inj hF) d_Mod_deliver_9
set_option maxHeartbeats 4000000 in
set_option maxRecDepth 100000 in
theorem C_Mod_deliver (l : Launch) (D : va_G) (ad : Nat → Nat) (ca : Nat → ClassId) (x1 : Int32) (σ : ed_S) (σ' : ed_S) (hF : F_Mod_deliver x1 σ = some σ') : ed_MV l y_Mod_deliver ws_Mod_deliver rm_Mod_deliver D ca (md_w ad ca) [.ref (ad (pMod 0)), .int x1] σ σ' := by
  refine ed_metV (cc := prog_10_method_25_code) (own := "ExecutiveDeskModel") (nL := 2) (ret := none) (by decide) rfl rfl (Nat.le_of_ble_eq_true rfl) ?_
  intro p e s m args below meth c A B hr hA
  exact T_Mod_deliver B hr hA x1 σ  hF
abbrev ws_Mod_alert : List Cond := Cond.code y_Mod_alert prog_10_method_26_code 2 none :: ed_tb
abbrev rm_Mod_alert : Room := { frames := 2, cells := 0, slots := 0, locals := 43 }
def F_Mod_alert (x1 : Int32) (σ : ed_S) : Option ed_S := (vG x1 8 fun j1 => (if (σ 7 0 j1) = 2 then (vG x1 8 fun j6 => (if (σ 14 0 j6) < 2 then (some σ) else (vG x1 8 fun j11 => (if (σ 9 0 j11) = 0 then (some σ) else (if (σ 47 0 0) = 1 then (some σ) else (vB1 (F_Mod_go x1 (-12) σ) fun σ17 => (vB1 (F_Mod_deliver x1 σ17) fun σ19 => (some σ19)))))))) else (some σ)))
set_option maxHeartbeats 4000000 in
set_option maxRecDepth 100000 in
theorem T_Mod_alert {σ' : ed_S} (B : ed_B p s m args meth c prog_10_method_26_code "ExecutiveDeskModel" 2 D ca) (hr : meth.sig.returnType = none) (hA : ∀ q : Nat, s.heap.size ≤ q → A q) : ∀ (x1 : Int32) (σ : ed_S), F_Mod_alert  x1 σ = some σ' → ed_G p l e rm_Mod_alert s m args below meth c D ca (md_w ad ca) A (ed_QV D ca (md_w ad ca) A below args s σ') 2 0 [(0, .ref (ad (pMod 0))), (1, .int x1)] [] σ := by
  have hx := B.1
  have hb := B.2.1
  intro x1 σ  hF H locs ls hP hD hS hl
  have hF : (vG x1 8 fun j1 => (if (σ 7 0 j1) = 2 then (vG x1 8 fun j6 => (if (σ 14 0 j6) < 2 then (some σ) else (vG x1 8 fun j11 => (if (σ 9 0 j11) = 0 then (some σ) else (if (σ 47 0 0) = 1 then (some σ) else (vB1 (F_Mod_go x1 (-12) σ) fun σ17 => (vB1 (F_Mod_deliver x1 σ17) fun σ19 => (some σ19)))))))) else (some σ))) = some σ' := hF
  refine lv_aload_n hx hb d_Mod_alert_0 rfl (lv_at hl 0 rfl) ?_
  refine gf_Mod_state B hP (by decide) L_Mod_31 d_Mod_alert_1 ?_
  refine lv_iload_n hx hb d_Mod_alert_4 rfl (lv_at hl 1 rfl) ?_
  obtain ⟨j1, ej2, hj3, hn4, hF⟩ := vG_some hF
  refine il_Mstate B hP (by decide) hn4 ej2 d_Mod_alert_5 ?_
  refine lv_iconst (v := 2) hx hb d_Mod_alert_6 (by decide) ?_
  refine lv_icmp_ne (tgt := 37) hx hb d_Mod_alert_7 (by decide) (fun c5 => ?_) (fun c5 => ?_)
  · have hF := vIf c5 hF
    exact ed_rV B hr hA hP hD hS (Option.some.inj hF) d_Mod_alert_37
  · have hF := vIt c5 hF
    refine lv_aload_n hx hb d_Mod_alert_10 rfl (lv_at hl 0 rfl) ?_
    refine gf_Mod_how B hP (by decide) L_Mod_52 d_Mod_alert_11 ?_
    refine lv_iload_n hx hb d_Mod_alert_14 rfl (lv_at hl 1 rfl) ?_
    obtain ⟨j6, ej7, hj8, hn9, hF⟩ := vG_some hF
    refine il_Mhow B hP (by decide) hn9 ej7 d_Mod_alert_15 ?_
    refine lv_iconst (v := 2) hx hb d_Mod_alert_16 (by decide) ?_
    refine lv_icmp_lt (tgt := 37) hx hb d_Mod_alert_17 (by decide) (fun c10 => ?_) (fun c10 => ?_)
    · have hF := vIt c10 hF
      exact ed_rV B hr hA hP hD hS (Option.some.inj hF) d_Mod_alert_37
    · have hF := vIf c10 hF
      refine lv_aload_n hx hb d_Mod_alert_20 rfl (lv_at hl 0 rfl) ?_
      refine gf_Mod_calls B hP (by decide) L_Mod_37 d_Mod_alert_21 ?_
      refine lv_iload_n hx hb d_Mod_alert_24 rfl (lv_at hl 1 rfl) ?_
      obtain ⟨j11, ej12, hj13, hn14, hF⟩ := vG_some hF
      refine il_Mcalls B hP (by decide) hn14 ej12 d_Mod_alert_25 ?_
      refine lv_if_eq (tgt := 37) hx hb d_Mod_alert_26 (by decide) (fun c15 => ?_) (fun c15 => ?_)
      · have hF := vIt c15 hF
        exact ed_rV B hr hA hP hD hS (Option.some.inj hF) d_Mod_alert_37
      · have hF := vIf c15 hF
        refine lv_aload_n hx hb d_Mod_alert_29 rfl (lv_at hl 0 rfl) ?_
        refine gf_Mod_level B hP (by decide) L_Mod_177 d_Mod_alert_30 ?_
        refine lv_iconst (v := 1) hx hb d_Mod_alert_33 (by decide) ?_
        refine lv_icmp_ne (tgt := 38) hx hb d_Mod_alert_34 (by decide) (fun c16 => ?_) (fun c16 => ?_)
        · have hF := vIf c16 hF
          refine lv_aload_n hx hb d_Mod_alert_38 rfl (lv_at hl 0 rfl) ?_
          refine lv_iload_n hx hb d_Mod_alert_39 rfl (lv_at hl 1 rfl) ?_
          refine lv_bipush (v := (-12)) hx hb d_Mod_alert_40 (by decide) ?_
          obtain ⟨σ17, q18, hF⟩ := vB1_some hF
          refine ed_cvV (As := [.int x1, .int (-12)]) (rest := []) B hP hD hS hA (C_Mod_go l D ad ca x1 (-12) σ σ17  q18) me_Mod_go mv_Mod_go L_Mod_210 (ed_rc_Mod B hP (by decide)) ⟨rfl, rfl⟩ ⟨Nat.le_of_ble_eq_true rfl, Nat.le_of_ble_eq_true rfl⟩ rfl rfl hl.1 (lv_room (Nat.le_of_ble_eq_true rfl)) d_Mod_alert_42 (fun H locs hP hD hS => ?_)
          refine lv_aload_n hx hb d_Mod_alert_45 rfl (lv_at hl 0 rfl) ?_
          refine lv_iload_n hx hb d_Mod_alert_46 rfl (lv_at hl 1 rfl) ?_
          obtain ⟨σ19, q20, hF⟩ := vB1_some hF
          refine ed_cvV (As := [.int x1]) (rest := []) B hP hD hS hA (C_Mod_deliver l D ad ca x1 σ17 σ19  q20) me_Mod_deliver mv_Mod_deliver L_Mod_217 (ed_rc_Mod B hP (by decide)) ⟨rfl, rfl⟩ ⟨Nat.le_of_ble_eq_true rfl, Nat.le_of_ble_eq_true rfl⟩ rfl rfl hl.1 (lv_room (Nat.le_of_ble_eq_true rfl)) d_Mod_alert_47 (fun H locs hP hD hS => ?_)
          exact ed_rV B hr hA hP hD hS (Option.some.inj hF) d_Mod_alert_50
        · have hF := vIt c16 hF
          exact ed_rV B hr hA hP hD hS (Option.some.inj hF) d_Mod_alert_37
set_option maxHeartbeats 4000000 in
set_option maxRecDepth 100000 in
theorem C_Mod_alert (l : Launch) (D : va_G) (ad : Nat → Nat) (ca : Nat → ClassId) (x1 : Int32) (σ : ed_S) (σ' : ed_S) (hF : F_Mod_alert x1 σ = some σ') : ed_MV l y_Mod_alert ws_Mod_alert rm_Mod_alert D ca (md_w ad ca) [.ref (ad (pMod 0)), .int x1] σ σ' := by
  refine ed_metV (cc := prog_10_method_26_code) (own := "ExecutiveDeskModel") (nL := 2) (ret := none) (by decide) rfl rfl (Nat.le_of_ble_eq_true rfl) ?_
  intro p e s m args below meth c A B hr hA
  exact T_Mod_alert B hr hA x1 σ  hF
abbrev ws_Mod_await : List Cond := Cond.code y_Mod_await prog_10_method_27_code 13 (some .int) :: ed_tb
abbrev rm_Mod_await : Room := { frames := 3, cells := 0, slots := 0, locals := 66 }
def F_Mod_await_417 (x1 : Int32) (x2 : Int32) (x3 : Int32) (x4 : Int32) (x5 : Int32) (x6 : Int32) (x7 : Int32) (x8 : Int32) (x9 : Int32) (x10 : Int32) (x11 : Int32) (x12 : Int32) (s0 : Int32) (s1 : Int32) (σ : ed_S) : Option (Int32 × ed_S) := (vG s1 8 fun j1 => vL (ed_st σ 13 0 j1 s0) fun σ5 => (vG x8 8 fun j7 => vL (ed_st σ5 12 0 j7 0) fun σ11 => (vL (ed_st σ11 51 0 0 ((σ11 51 0 0) + 1)) fun σ13 => (vG x8 8 fun j15 => vL (ed_st σ13 15 0 j15 ((σ11 51 0 0) + 1)) fun σ19 => (vB2 (F_Mod_end (-10) σ19) fun r23 σ21 => (some (r23, σ21)))))))
def F_Mod_await_328 (x1 : Int32) (x2 : Int32) (x3 : Int32) (x4 : Int32) (x5 : Int32) (x6 : Int32) (x7 : Int32) (x8 : Int32) (x9 : Int32) (x10 : Int32) (x11 : Int32) (s0 : Int32) (s1 : Int32) (σ : ed_S) : Option (Int32 × ed_S) := (vG s1 24 fun j1 => vL (ed_st σ 17 0 j1 s0) fun σ5 => (vG x8 8 fun j7 => vL (ed_st σ5 14 0 j7 x4) fun σ11 => (vB2 (F_Mod_satisfy x8 σ11) fun r15 σ13 => (if 0 ≤ r15 then (if r15 < 0 then (vB2 (F_Mod_end (-11) σ13) fun r20 σ18 => (some (r20, σ18))) else (vB2 (F_Mod_end r15 σ13) fun r23 σ21 => (some (r23, σ21)))) else (if x5 = 0 then (if r15 < 0 then (vB2 (F_Mod_end (-11) σ13) fun r43 σ41 => (some (r43, σ41))) else (vB2 (F_Mod_end r15 σ13) fun r46 σ44 => (some (r46, σ44)))) else (vG x8 8 fun j25 => vL (ed_st σ13 7 0 j25 2) fun σ29 => (vL (ed_st σ29 44 0 0 (-1)) fun σ31 => (vG x8 8 fun j33 => vL (ed_st σ31 8 0 j33 (-10)) fun σ37 => (if 0 ≤ x5 then (F_Mod_await_417  x1 x2 x3 x4 x5 x6 x7 x8 x9 x10 x11 r15 ((σ37 46 0 0) + x5) x8 σ37) else (F_Mod_await_417  x1 x2 x3 x4 x5 x6 x7 x8 x9 x10 x11 r15 (-1) x8 σ37))))))))))
def F_Mod_await_283 (x1 : Int32) (x2 : Int32) (x3 : Int32) (x4 : Int32) (x5 : Int32) (x6 : Int32) (x7 : Int32) (x8 : Int32) (x9 : Int32) (x10 : Int32) (x11 : Int32) (σ : ed_S) : Option (Int32 × ed_S) := (vG (3 * x8) 24 fun j1 => vL (ed_st σ 17 0 j1 x9) fun σ5 => (vG ((3 * x8) + 1) 24 fun j7 => vL (ed_st σ5 17 0 j7 x10) fun σ11 => (if x7 = 0 then (F_Mod_await_328  x1 x2 x3 x4 x5 x6 x7 x8 x9 x10 x11 (-1) ((3 * x8) + 2) σ11) else (F_Mod_await_328  x1 x2 x3 x4 x5 x6 x7 x8 x9 x10 x11 x11 ((3 * x8) + 2) σ11))))
def F_Mod_await_254 (x1 : Int32) (x2 : Int32) (x3 : Int32) (x4 : Int32) (x5 : Int32) (x6 : Int32) (x7 : Int32) (x8 : Int32) (x9 : Int32) (x10 : Int32) (x11 : Int32) (σ : ed_S) : Option (Int32 × ed_S) := (if x4 ≤ 1 then (F_Mod_await_283  x1 x2 x3 x4 x5 x6 x7 x8 x9 x10 x11 σ) else (vG x8 8 fun j2 => (if (σ 9 0 j2) ≤ 0 then (F_Mod_await_283  x1 x2 x3 x4 x5 x6 x7 x8 x9 x10 x11 σ) else (vB1 (F_Mod_deliver x8 σ) fun σ7 => (vB2 (F_Mod_end (-12) σ7) fun r11 σ9 => (some (r11, σ9)))))))
def F_Mod_await_191 (x1 : Int32) (x2 : Int32) (x3 : Int32) (x4 : Int32) (x5 : Int32) (x6 : Int32) (x7 : Int32) (x8 : Int32) (x9 : Int32) (x10 : Int32) (x11 : Int32) (σ : ed_S) : Option (Int32 × ed_S) := (if x9 = x10 then (some ((-1), σ)) else (if x9 = x11 then (some ((-1), σ)) else (if x10 = x11 then (some ((-1), σ)) else (vB2 (F_Mod_lacks x1 4 σ) fun r6 σ4 => (if r6 = 0 then (if x6 = 0 then (if x7 = 0 then (F_Mod_await_254  x1 x2 x3 x4 x5 x6 x7 x8 x9 x10 x11 σ4) else (vB2 (F_Mod_lacks x3 4 σ4) fun r12 σ10 => (if r12 = 0 then (F_Mod_await_254  x1 x2 x3 x4 x5 x6 x7 x8 x9 x10 x11 σ10) else (some ((-5), σ10))))) else (vB2 (F_Mod_lacks x2 4 σ4) fun r16 σ14 => (if r16 = 0 then (if x7 = 0 then (F_Mod_await_254  x1 x2 x3 x4 x5 x6 x7 x8 x9 x10 x11 σ14) else (vB2 (F_Mod_lacks x3 4 σ14) fun r21 σ19 => (if r21 = 0 then (F_Mod_await_254  x1 x2 x3 x4 x5 x6 x7 x8 x9 x10 x11 σ19) else (some ((-5), σ19))))) else (some ((-5), σ14))))) else (some ((-5), σ4)))))))
def F_Mod_await_146 (x1 : Int32) (x2 : Int32) (x3 : Int32) (x4 : Int32) (x5 : Int32) (x6 : Int32) (x7 : Int32) (x8 : Int32) (x9 : Int32) (x10 : Int32) (s0 : Int32) (σ : ed_S) : Option (Int32 × ed_S) := (vG x9 16 fun j1 => (if (σ 22 0 j1) = 5 then (some ((-1), σ)) else (if x6 = 0 then (if x7 = 0 then (F_Mod_await_191  x1 x2 x3 x4 x5 x6 x7 x8 x9 x10 s0 σ) else (vG s0 16 fun j8 => (if (σ 22 0 j8) = 5 then (some ((-1), σ)) else (F_Mod_await_191  x1 x2 x3 x4 x5 x6 x7 x8 x9 x10 s0 σ)))) else (vG x10 16 fun j13 => (if (σ 22 0 j13) = 5 then (some ((-1), σ)) else (if x7 = 0 then (F_Mod_await_191  x1 x2 x3 x4 x5 x6 x7 x8 x9 x10 s0 σ) else (vG s0 16 fun j19 => (if (σ 22 0 j19) = 5 then (some ((-1), σ)) else (F_Mod_await_191  x1 x2 x3 x4 x5 x6 x7 x8 x9 x10 s0 σ)))))))))
def F_Mod_await_102 (x1 : Int32) (x2 : Int32) (x3 : Int32) (x4 : Int32) (x5 : Int32) (x6 : Int32) (x7 : Int32) (σ : ed_S) : Option (Int32 × ed_S) := (vB2 (F_Mod_objectOf x1 σ) fun r3 σ1 => (if x6 = 0 then (if x7 = 0 then (F_Mod_await_146  x1 x2 x3 x4 x5 x6 x7 (σ 44 0 0) r3 (-1) (-2) σ1) else (vB2 (F_Mod_objectOf x3 σ1) fun r8 σ6 => (F_Mod_await_146  x1 x2 x3 x4 x5 x6 x7 (σ 44 0 0) r3 (-1) r8 σ6))) else (vB2 (F_Mod_objectOf x2 σ1) fun r11 σ9 => (if x7 = 0 then (F_Mod_await_146  x1 x2 x3 x4 x5 x6 x7 (σ 44 0 0) r3 r11 (-2) σ9) else (vB2 (F_Mod_objectOf x3 σ9) fun r15 σ13 => (F_Mod_await_146  x1 x2 x3 x4 x5 x6 x7 (σ 44 0 0) r3 r11 r15 σ13))))))
def F_Mod_await_43 (x1 : Int32) (x2 : Int32) (x3 : Int32) (x4 : Int32) (x5 : Int32) (x6 : Int32) (s0 : Int32) (σ : ed_S) : Option (Int32 × ed_S) := (vB2 (F_Mod_is x4 0 3 σ) fun r3 σ1 => (if r3 = 0 then (some ((-1), σ1)) else (vB2 (F_Mod_is x5 (-1) 99 σ1) fun r7 σ5 => (if r7 = 0 then (some ((-1), σ5)) else (vB2 (F_Mod_isHandle x1 σ5) fun r11 σ9 => (if r11 = 0 then (some ((-1), σ9)) else (if x6 = 0 then (if s0 = 0 then (F_Mod_await_102  x1 x2 x3 x4 x5 x6 s0 σ9) else (vB2 (F_Mod_isHandle x3 σ9) fun r17 σ15 => (if r17 = 0 then (some ((-1), σ15)) else (F_Mod_await_102  x1 x2 x3 x4 x5 x6 s0 σ15)))) else (vB2 (F_Mod_isHandle x2 σ9) fun r21 σ19 => (if r21 = 0 then (some ((-1), σ19)) else (if s0 = 0 then (F_Mod_await_102  x1 x2 x3 x4 x5 x6 s0 σ19) else (vB2 (F_Mod_isHandle x3 σ19) fun r26 σ24 => (if r26 = 0 then (some ((-1), σ24)) else (F_Mod_await_102  x1 x2 x3 x4 x5 x6 s0 σ24)))))))))))))
def F_Mod_await (x1 : Int32) (x2 : Int32) (x3 : Int32) (x4 : Int32) (x5 : Int32) (σ : ed_S) : Option (Int32 × ed_S) := (if 0 ≤ (σ 44 0 0) then (if (σ 47 0 0) = 1 then (some ((-4), σ)) else (if x2 = (-1) then (if x3 = (-1) then (F_Mod_await_43  x1 x2 x3 x4 x5 0 0 σ) else (F_Mod_await_43  x1 x2 x3 x4 x5 0 1 σ)) else (if x3 = (-1) then (F_Mod_await_43  x1 x2 x3 x4 x5 1 0 σ) else (F_Mod_await_43  x1 x2 x3 x4 x5 1 1 σ)))) else (some ((-3), σ)))
set_option maxHeartbeats 4000000 in
set_option maxRecDepth 100000 in
theorem T_Mod_await_417 {r : Int32} {σ' : ed_S} (B : ed_B p s m args meth c prog_10_method_27_code "ExecutiveDeskModel" 13 D ca) (hr : meth.sig.returnType = (some .int)) (hA : ∀ q : Nat, s.heap.size ≤ q → A q) : ∀ (x1 : Int32) (x2 : Int32) (x3 : Int32) (x4 : Int32) (x5 : Int32) (x6 : Int32) (x7 : Int32) (x8 : Int32) (x9 : Int32) (x10 : Int32) (x11 : Int32) (x12 : Int32) (s0 : Int32) (s1 : Int32) (σ : ed_S), F_Mod_await_417  x1 x2 x3 x4 x5 x6 x7 x8 x9 x10 x11 x12 s0 s1 σ = some (r, σ') → ed_G p l e rm_Mod_await s m args below meth c D ca (md_w ad ca) A (ed_QI D ca (md_w ad ca) A below args s r σ') 13 417 [(0, .ref (ad (pMod 0))), (1, .int x1), (2, .int x2), (3, .int x3), (4, .int x4), (5, .int x5), (6, .int x6), (7, .int x7), (8, .int x8), (9, .int x9), (10, .int x10), (11, .int x11), (12, .int x12)] [.int s0, .int s1, .ref (ad (pMdue 0))] σ := by
  have hx := B.1
  have hb := B.2.1
  intro x1 x2 x3 x4 x5 x6 x7 x8 x9 x10 x11 x12 s0 s1 σ  hF H locs ls hP hD hS hl
  have hF : (vG s1 8 fun j1 => vL (ed_st σ 13 0 j1 s0) fun σ5 => (vG x8 8 fun j7 => vL (ed_st σ5 12 0 j7 0) fun σ11 => (vL (ed_st σ11 51 0 0 ((σ11 51 0 0) + 1)) fun σ13 => (vG x8 8 fun j15 => vL (ed_st σ13 15 0 j15 ((σ11 51 0 0) + 1)) fun σ19 => (vB2 (F_Mod_end (-10) σ19) fun r23 σ21 => (some (r23, σ21))))))) = some (r, σ') := hF
  obtain ⟨j1, ej2, hj3, hn4, hF⟩ := vG_some hF
  obtain ⟨σ5, e6, hF⟩ := vL_some hF
  refine is_Mdue B hP hD hS (by decide) hn4 ej2 e6 d_Mod_await_417 (fun H locs hP hD hS => ?_)
  refine lv_aload_n hx hb d_Mod_await_418 rfl (lv_at hl 0 rfl) ?_
  refine gf_Mod_used B hP (by decide) L_Mod_46 d_Mod_await_419 ?_
  refine lv_iload hx hb d_Mod_await_422 (lv_at hl 8 rfl) ?_
  refine lv_iconst (v := 0) hx hb d_Mod_await_424 (by decide) ?_
  obtain ⟨j7, ej8, hj9, hn10, hF⟩ := vG_some hF
  obtain ⟨σ11, e12, hF⟩ := vL_some hF
  refine is_Mused B hP hD hS (by decide) hn10 ej8 e12 d_Mod_await_425 (fun H locs hP hD hS => ?_)
  refine lv_aload_n hx hb d_Mod_await_426 rfl (lv_at hl 0 rfl) ?_
  refine gf_Mod_began B hP (by decide) L_Mod_55 d_Mod_await_427 ?_
  refine lv_iload hx hb d_Mod_await_430 (lv_at hl 8 rfl) ?_
  refine lv_aload_n hx hb d_Mod_await_432 rfl (lv_at hl 0 rfl) ?_
  refine lv_dup hx hb d_Mod_await_433 rfl ?_
  refine gf_Mod_orders B hP (by decide) L_Mod_171 d_Mod_await_434 ?_
  refine lv_iconst (v := 1) hx hb d_Mod_await_437 (by decide) ?_
  refine lv_iadd hx hb d_Mod_await_438 ?_
  refine lv_dup_x1 hx hb d_Mod_await_439 rfl rfl ?_
  obtain ⟨σ13, e14, hF⟩ := vL_some hF
  refine pf_Mod_orders B hP hD hS (by decide) e14 L_Mod_171 d_Mod_await_440 (fun H locs hP hD hS => ?_)
  obtain ⟨j15, ej16, hj17, hn18, hF⟩ := vG_some hF
  obtain ⟨σ19, e20, hF⟩ := vL_some hF
  refine is_Mbegan B hP hD hS (by decide) hn18 ej16 e20 d_Mod_await_443 (fun H locs hP hD hS => ?_)
  refine lv_aload_n hx hb d_Mod_await_444 rfl (lv_at hl 0 rfl) ?_
  refine lv_bipush (v := (-10)) hx hb d_Mod_await_445 (by decide) ?_
  obtain ⟨r23, σ21, q22, hF⟩ := vB2_some hF
  refine ed_cvI (As := [.int (-10)]) (rest := []) B hP hD hS hA (C_Mod_end l D ad ca (-10) σ19 r23 σ21  q22) me_Mod_end mv_Mod_end L_Mod_168 (ed_rc_Mod B hP (by decide)) ⟨rfl, rfl⟩ ⟨Nat.le_of_ble_eq_true rfl, Nat.le_of_ble_eq_true rfl⟩ rfl rfl hl.1 (lv_room (Nat.le_of_ble_eq_true rfl)) d_Mod_await_447 (fun H locs hP hD hS => ?_)
  exact ed_rI B hr hA hP hD hS (vP hF) d_Mod_await_450
set_option maxHeartbeats 4000000 in
set_option maxRecDepth 100000 in
theorem T_Mod_await_328 {r : Int32} {σ' : ed_S} (B : ed_B p s m args meth c prog_10_method_27_code "ExecutiveDeskModel" 13 D ca) (hr : meth.sig.returnType = (some .int)) (hA : ∀ q : Nat, s.heap.size ≤ q → A q) : ∀ (x1 : Int32) (x2 : Int32) (x3 : Int32) (x4 : Int32) (x5 : Int32) (x6 : Int32) (x7 : Int32) (x8 : Int32) (x9 : Int32) (x10 : Int32) (x11 : Int32) (s0 : Int32) (s1 : Int32) (σ : ed_S), F_Mod_await_328  x1 x2 x3 x4 x5 x6 x7 x8 x9 x10 x11 s0 s1 σ = some (r, σ') → ed_G p l e rm_Mod_await s m args below meth c D ca (md_w ad ca) A (ed_QI D ca (md_w ad ca) A below args s r σ') 13 328 [(0, .ref (ad (pMod 0))), (1, .int x1), (2, .int x2), (3, .int x3), (4, .int x4), (5, .int x5), (6, .int x6), (7, .int x7), (8, .int x8), (9, .int x9), (10, .int x10), (11, .int x11)] [.int s0, .int s1, .ref (ad (pMplace 0))] σ := by
  have hx := B.1
  have hb := B.2.1
  intro x1 x2 x3 x4 x5 x6 x7 x8 x9 x10 x11 s0 s1 σ  hF H locs ls hP hD hS hl
  have hF : (vG s1 24 fun j1 => vL (ed_st σ 17 0 j1 s0) fun σ5 => (vG x8 8 fun j7 => vL (ed_st σ5 14 0 j7 x4) fun σ11 => (vB2 (F_Mod_satisfy x8 σ11) fun r15 σ13 => (if 0 ≤ r15 then (if r15 < 0 then (vB2 (F_Mod_end (-11) σ13) fun r20 σ18 => (some (r20, σ18))) else (vB2 (F_Mod_end r15 σ13) fun r23 σ21 => (some (r23, σ21)))) else (if x5 = 0 then (if r15 < 0 then (vB2 (F_Mod_end (-11) σ13) fun r43 σ41 => (some (r43, σ41))) else (vB2 (F_Mod_end r15 σ13) fun r46 σ44 => (some (r46, σ44)))) else (vG x8 8 fun j25 => vL (ed_st σ13 7 0 j25 2) fun σ29 => (vL (ed_st σ29 44 0 0 (-1)) fun σ31 => (vG x8 8 fun j33 => vL (ed_st σ31 8 0 j33 (-10)) fun σ37 => (if 0 ≤ x5 then (F_Mod_await_417  x1 x2 x3 x4 x5 x6 x7 x8 x9 x10 x11 r15 ((σ37 46 0 0) + x5) x8 σ37) else (F_Mod_await_417  x1 x2 x3 x4 x5 x6 x7 x8 x9 x10 x11 r15 (-1) x8 σ37)))))))))) = some (r, σ') := hF
  obtain ⟨j1, ej2, hj3, hn4, hF⟩ := vG_some hF
  obtain ⟨σ5, e6, hF⟩ := vL_some hF
  refine is_Mplace B hP hD hS (by decide) hn4 ej2 e6 d_Mod_await_328 (fun H locs hP hD hS => ?_)
  refine lv_aload_n hx hb d_Mod_await_329 rfl (lv_at hl 0 rfl) ?_
  refine gf_Mod_how B hP (by decide) L_Mod_52 d_Mod_await_330 ?_
  refine lv_iload hx hb d_Mod_await_333 (lv_at hl 8 rfl) ?_
  refine lv_iload hx hb d_Mod_await_335 (lv_at hl 4 rfl) ?_
  obtain ⟨j7, ej8, hj9, hn10, hF⟩ := vG_some hF
  obtain ⟨σ11, e12, hF⟩ := vL_some hF
  refine is_Mhow B hP hD hS (by decide) hn10 ej8 e12 d_Mod_await_337 (fun H locs hP hD hS => ?_)
  refine lv_aload_n hx hb d_Mod_await_338 rfl (lv_at hl 0 rfl) ?_
  refine lv_iload hx hb d_Mod_await_339 (lv_at hl 8 rfl) ?_
  obtain ⟨r15, σ13, q14, hF⟩ := vB2_some hF
  refine ed_cvI (As := [.int x8]) (rest := []) B hP hD hS hA (C_Mod_satisfy l D ad ca x8 σ11 r15 σ13  q14) me_Mod_satisfy mv_Mod_satisfy L_Mod_207 (ed_rc_Mod B hP (by decide)) ⟨rfl, rfl⟩ ⟨Nat.le_of_ble_eq_true rfl, Nat.le_of_ble_eq_true rfl⟩ rfl rfl hl.1 (lv_room (Nat.le_of_ble_eq_true rfl)) d_Mod_await_341 (fun H locs hP hD hS => ?_)
  refine lv_istore (lv' := [(12, .int r15), (0, .ref (ad (pMod 0))), (1, .int x1), (2, .int x2), (3, .int x3), (4, .int x4), (5, .int x5), (6, .int x6), (7, .int x7), (8, .int x8), (9, .int x9), (10, .int x10), (11, .int x11)]) hx hb d_Mod_await_344 hl (by decide) rfl (fun ls hl => ?_)
  refine lv_iload hx hb d_Mod_await_346 (lv_at hl 0 rfl) ?_
  refine lv_if_ge (tgt := 356) hx hb d_Mod_await_348 (by decide) (fun c16 => ?_) (fun c16 => ?_)
  · have hF := vIt c16 hF
    refine lv_aload_n hx hb d_Mod_await_356 rfl (lv_at hl 1 rfl) ?_
    refine lv_iload hx hb d_Mod_await_357 (lv_at hl 0 rfl) ?_
    refine lv_if_lt (tgt := 367) hx hb d_Mod_await_359 (by decide) (fun c17 => ?_) (fun c17 => ?_)
    · have hF := vIt c17 hF
      refine lv_bipush (v := (-11)) hx hb d_Mod_await_367 (by decide) ?_
      obtain ⟨r20, σ18, q19, hF⟩ := vB2_some hF
      refine ed_cvI (As := [.int (-11)]) (rest := []) B hP hD hS hA (C_Mod_end l D ad ca (-11) σ13 r20 σ18  q19) me_Mod_end mv_Mod_end L_Mod_168 (ed_rc_Mod B hP (by decide)) ⟨rfl, rfl⟩ ⟨Nat.le_of_ble_eq_true rfl, Nat.le_of_ble_eq_true rfl⟩ rfl rfl hl.1 (lv_room (Nat.le_of_ble_eq_true rfl)) d_Mod_await_369 (fun H locs hP hD hS => ?_)
      exact ed_rI B hr hA hP hD hS (vP hF) d_Mod_await_372
    · have hF := vIf c17 hF
      refine lv_iload hx hb d_Mod_await_362 (lv_at hl 0 rfl) ?_
      refine lv_goto (tgt := 369) hx hb d_Mod_await_364 (by decide) ?_
      obtain ⟨r23, σ21, q22, hF⟩ := vB2_some hF
      refine ed_cvI (As := [.int r15]) (rest := []) B hP hD hS hA (C_Mod_end l D ad ca r15 σ13 r23 σ21  q22) me_Mod_end mv_Mod_end L_Mod_168 (ed_rc_Mod B hP (by decide)) ⟨rfl, rfl⟩ ⟨Nat.le_of_ble_eq_true rfl, Nat.le_of_ble_eq_true rfl⟩ rfl rfl hl.1 (lv_room (Nat.le_of_ble_eq_true rfl)) d_Mod_await_369 (fun H locs hP hD hS => ?_)
      exact ed_rI B hr hA hP hD hS (vP hF) d_Mod_await_372
  · have hF := vIf c16 hF
    refine lv_iload hx hb d_Mod_await_351 (lv_at hl 6 rfl) ?_
    refine lv_if_ne (tgt := 373) hx hb d_Mod_await_353 (by decide) (fun c24 => ?_) (fun c24 => ?_)
    · have hF := vIf c24 hF
      refine lv_aload_n hx hb d_Mod_await_373 rfl (lv_at hl 1 rfl) ?_
      refine gf_Mod_state B hP (by decide) L_Mod_31 d_Mod_await_374 ?_
      refine lv_iload hx hb d_Mod_await_377 (lv_at hl 9 rfl) ?_
      refine lv_iconst (v := 2) hx hb d_Mod_await_379 (by decide) ?_
      obtain ⟨j25, ej26, hj27, hn28, hF⟩ := vG_some hF
      obtain ⟨σ29, e30, hF⟩ := vL_some hF
      refine is_Mstate B hP hD hS (by decide) hn28 ej26 e30 d_Mod_await_380 (fun H locs hP hD hS => ?_)
      refine lv_aload_n hx hb d_Mod_await_381 rfl (lv_at hl 1 rfl) ?_
      refine lv_iconst (v := (-1)) hx hb d_Mod_await_382 (by decide) ?_
      obtain ⟨σ31, e32, hF⟩ := vL_some hF
      refine pf_Mod_running B hP hD hS (by decide) e32 L_Mod_137 d_Mod_await_383 (fun H locs hP hD hS => ?_)
      refine lv_aload_n hx hb d_Mod_await_386 rfl (lv_at hl 1 rfl) ?_
      refine gf_Mod_result B hP (by decide) L_Mod_34 d_Mod_await_387 ?_
      refine lv_iload hx hb d_Mod_await_390 (lv_at hl 9 rfl) ?_
      refine lv_bipush (v := (-10)) hx hb d_Mod_await_392 (by decide) ?_
      obtain ⟨j33, ej34, hj35, hn36, hF⟩ := vG_some hF
      obtain ⟨σ37, e38, hF⟩ := vL_some hF
      refine is_Mresult B hP hD hS (by decide) hn36 ej34 e38 d_Mod_await_394 (fun H locs hP hD hS => ?_)
      refine lv_aload_n hx hb d_Mod_await_395 rfl (lv_at hl 1 rfl) ?_
      refine gf_Mod_due B hP (by decide) L_Mod_49 d_Mod_await_396 ?_
      refine lv_iload hx hb d_Mod_await_399 (lv_at hl 9 rfl) ?_
      refine lv_iload hx hb d_Mod_await_401 (lv_at hl 6 rfl) ?_
      refine lv_if_ge (tgt := 410) hx hb d_Mod_await_403 (by decide) (fun c39 => ?_) (fun c39 => ?_)
      · have hF := vIt c39 hF
        refine lv_aload_n hx hb d_Mod_await_410 rfl (lv_at hl 1 rfl) ?_
        refine gf_Mod_clock B hP (by decide) L_Mod_230 d_Mod_await_411 ?_
        refine lv_iload hx hb d_Mod_await_414 (lv_at hl 6 rfl) ?_
        refine lv_iadd hx hb d_Mod_await_416 ?_
        exact T_Mod_await_417 B hr hA  x1 x2 x3 x4 x5 x6 x7 x8 x9 x10 x11 r15 ((σ37 46 0 0) + x5) x8 σ37  hF _ _ _ hP hD hS (lv_sub hl [1, 2, 3, 4, 5, 6, 7, 8, 9, 10, 11, 12, 0] rfl)
      · have hF := vIf c39 hF
        refine lv_iconst (v := (-1)) hx hb d_Mod_await_406 (by decide) ?_
        refine lv_goto (tgt := 417) hx hb d_Mod_await_407 (by decide) ?_
        exact T_Mod_await_417 B hr hA  x1 x2 x3 x4 x5 x6 x7 x8 x9 x10 x11 r15 (-1) x8 σ37  hF _ _ _ hP hD hS (lv_sub hl [1, 2, 3, 4, 5, 6, 7, 8, 9, 10, 11, 12, 0] rfl)
    · have hF := vIt c24 hF
      refine lv_aload_n hx hb d_Mod_await_356 rfl (lv_at hl 1 rfl) ?_
      refine lv_iload hx hb d_Mod_await_357 (lv_at hl 0 rfl) ?_
      refine lv_if_lt (tgt := 367) hx hb d_Mod_await_359 (by decide) (fun c40 => ?_) (fun c40 => ?_)
      · have hF := vIt c40 hF
        refine lv_bipush (v := (-11)) hx hb d_Mod_await_367 (by decide) ?_
        obtain ⟨r43, σ41, q42, hF⟩ := vB2_some hF
        refine ed_cvI (As := [.int (-11)]) (rest := []) B hP hD hS hA (C_Mod_end l D ad ca (-11) σ13 r43 σ41  q42) me_Mod_end mv_Mod_end L_Mod_168 (ed_rc_Mod B hP (by decide)) ⟨rfl, rfl⟩ ⟨Nat.le_of_ble_eq_true rfl, Nat.le_of_ble_eq_true rfl⟩ rfl rfl hl.1 (lv_room (Nat.le_of_ble_eq_true rfl)) d_Mod_await_369 (fun H locs hP hD hS => ?_)
        exact ed_rI B hr hA hP hD hS (vP hF) d_Mod_await_372
      · have hF := vIf c40 hF
        refine lv_iload hx hb d_Mod_await_362 (lv_at hl 0 rfl) ?_
        refine lv_goto (tgt := 369) hx hb d_Mod_await_364 (by decide) ?_
        obtain ⟨r46, σ44, q45, hF⟩ := vB2_some hF
        refine ed_cvI (As := [.int r15]) (rest := []) B hP hD hS hA (C_Mod_end l D ad ca r15 σ13 r46 σ44  q45) me_Mod_end mv_Mod_end L_Mod_168 (ed_rc_Mod B hP (by decide)) ⟨rfl, rfl⟩ ⟨Nat.le_of_ble_eq_true rfl, Nat.le_of_ble_eq_true rfl⟩ rfl rfl hl.1 (lv_room (Nat.le_of_ble_eq_true rfl)) d_Mod_await_369 (fun H locs hP hD hS => ?_)
        exact ed_rI B hr hA hP hD hS (vP hF) d_Mod_await_372
set_option maxHeartbeats 4000000 in
set_option maxRecDepth 100000 in
theorem T_Mod_await_283 {r : Int32} {σ' : ed_S} (B : ed_B p s m args meth c prog_10_method_27_code "ExecutiveDeskModel" 13 D ca) (hr : meth.sig.returnType = (some .int)) (hA : ∀ q : Nat, s.heap.size ≤ q → A q) : ∀ (x1 : Int32) (x2 : Int32) (x3 : Int32) (x4 : Int32) (x5 : Int32) (x6 : Int32) (x7 : Int32) (x8 : Int32) (x9 : Int32) (x10 : Int32) (x11 : Int32) (σ : ed_S), F_Mod_await_283  x1 x2 x3 x4 x5 x6 x7 x8 x9 x10 x11 σ = some (r, σ') → ed_G p l e rm_Mod_await s m args below meth c D ca (md_w ad ca) A (ed_QI D ca (md_w ad ca) A below args s r σ') 13 283 [(0, .ref (ad (pMod 0))), (1, .int x1), (2, .int x2), (3, .int x3), (4, .int x4), (5, .int x5), (6, .int x6), (7, .int x7), (8, .int x8), (9, .int x9), (10, .int x10), (11, .int x11)] [] σ := by
  have hx := B.1
  have hb := B.2.1
  intro x1 x2 x3 x4 x5 x6 x7 x8 x9 x10 x11 σ  hF H locs ls hP hD hS hl
  have hF : (vG (3 * x8) 24 fun j1 => vL (ed_st σ 17 0 j1 x9) fun σ5 => (vG ((3 * x8) + 1) 24 fun j7 => vL (ed_st σ5 17 0 j7 x10) fun σ11 => (if x7 = 0 then (F_Mod_await_328  x1 x2 x3 x4 x5 x6 x7 x8 x9 x10 x11 (-1) ((3 * x8) + 2) σ11) else (F_Mod_await_328  x1 x2 x3 x4 x5 x6 x7 x8 x9 x10 x11 x11 ((3 * x8) + 2) σ11)))) = some (r, σ') := hF
  refine lv_aload_n hx hb d_Mod_await_283 rfl (lv_at hl 0 rfl) ?_
  refine gf_Mod_place B hP (by decide) L_Mod_61 d_Mod_await_284 ?_
  refine lv_iconst (v := 3) hx hb d_Mod_await_287 (by decide) ?_
  refine lv_iload hx hb d_Mod_await_288 (lv_at hl 8 rfl) ?_
  refine lv_imul hx hb d_Mod_await_290 ?_
  refine lv_iload hx hb d_Mod_await_291 (lv_at hl 9 rfl) ?_
  obtain ⟨j1, ej2, hj3, hn4, hF⟩ := vG_some hF
  obtain ⟨σ5, e6, hF⟩ := vL_some hF
  refine is_Mplace B hP hD hS (by decide) hn4 ej2 e6 d_Mod_await_293 (fun H locs hP hD hS => ?_)
  refine lv_aload_n hx hb d_Mod_await_294 rfl (lv_at hl 0 rfl) ?_
  refine gf_Mod_place B hP (by decide) L_Mod_61 d_Mod_await_295 ?_
  refine lv_iconst (v := 3) hx hb d_Mod_await_298 (by decide) ?_
  refine lv_iload hx hb d_Mod_await_299 (lv_at hl 8 rfl) ?_
  refine lv_imul hx hb d_Mod_await_301 ?_
  refine lv_iconst (v := 1) hx hb d_Mod_await_302 (by decide) ?_
  refine lv_iadd hx hb d_Mod_await_303 ?_
  refine lv_iload hx hb d_Mod_await_304 (lv_at hl 10 rfl) ?_
  obtain ⟨j7, ej8, hj9, hn10, hF⟩ := vG_some hF
  obtain ⟨σ11, e12, hF⟩ := vL_some hF
  refine is_Mplace B hP hD hS (by decide) hn10 ej8 e12 d_Mod_await_306 (fun H locs hP hD hS => ?_)
  refine lv_aload_n hx hb d_Mod_await_307 rfl (lv_at hl 0 rfl) ?_
  refine gf_Mod_place B hP (by decide) L_Mod_61 d_Mod_await_308 ?_
  refine lv_iconst (v := 3) hx hb d_Mod_await_311 (by decide) ?_
  refine lv_iload hx hb d_Mod_await_312 (lv_at hl 8 rfl) ?_
  refine lv_imul hx hb d_Mod_await_314 ?_
  refine lv_iconst (v := 2) hx hb d_Mod_await_315 (by decide) ?_
  refine lv_iadd hx hb d_Mod_await_316 ?_
  refine lv_iload hx hb d_Mod_await_317 (lv_at hl 7 rfl) ?_
  refine lv_if_eq (tgt := 327) hx hb d_Mod_await_319 (by decide) (fun c13 => ?_) (fun c13 => ?_)
  · have hF := vIt c13 hF
    refine lv_iconst (v := (-1)) hx hb d_Mod_await_327 (by decide) ?_
    exact T_Mod_await_328 B hr hA  x1 x2 x3 x4 x5 x6 x7 x8 x9 x10 x11 (-1) ((3 * x8) + 2) σ11  hF _ _ _ hP hD hS (lv_sub hl [0, 1, 2, 3, 4, 5, 6, 7, 8, 9, 10, 11] rfl)
  · have hF := vIf c13 hF
    refine lv_iload hx hb d_Mod_await_322 (lv_at hl 11 rfl) ?_
    refine lv_goto (tgt := 328) hx hb d_Mod_await_324 (by decide) ?_
    exact T_Mod_await_328 B hr hA  x1 x2 x3 x4 x5 x6 x7 x8 x9 x10 x11 x11 ((3 * x8) + 2) σ11  hF _ _ _ hP hD hS (lv_sub hl [0, 1, 2, 3, 4, 5, 6, 7, 8, 9, 10, 11] rfl)
set_option maxHeartbeats 4000000 in
set_option maxRecDepth 100000 in
theorem T_Mod_await_254 {r : Int32} {σ' : ed_S} (B : ed_B p s m args meth c prog_10_method_27_code "ExecutiveDeskModel" 13 D ca) (hr : meth.sig.returnType = (some .int)) (hA : ∀ q : Nat, s.heap.size ≤ q → A q) : ∀ (x1 : Int32) (x2 : Int32) (x3 : Int32) (x4 : Int32) (x5 : Int32) (x6 : Int32) (x7 : Int32) (x8 : Int32) (x9 : Int32) (x10 : Int32) (x11 : Int32) (σ : ed_S), F_Mod_await_254  x1 x2 x3 x4 x5 x6 x7 x8 x9 x10 x11 σ = some (r, σ') → ed_G p l e rm_Mod_await s m args below meth c D ca (md_w ad ca) A (ed_QI D ca (md_w ad ca) A below args s r σ') 13 254 [(0, .ref (ad (pMod 0))), (1, .int x1), (2, .int x2), (3, .int x3), (4, .int x4), (5, .int x5), (6, .int x6), (7, .int x7), (8, .int x8), (9, .int x9), (10, .int x10), (11, .int x11)] [] σ := by
  have hx := B.1
  have hb := B.2.1
  intro x1 x2 x3 x4 x5 x6 x7 x8 x9 x10 x11 σ  hF H locs ls hP hD hS hl
  have hF : (if x4 ≤ 1 then (F_Mod_await_283  x1 x2 x3 x4 x5 x6 x7 x8 x9 x10 x11 σ) else (vG x8 8 fun j2 => (if (σ 9 0 j2) ≤ 0 then (F_Mod_await_283  x1 x2 x3 x4 x5 x6 x7 x8 x9 x10 x11 σ) else (vB1 (F_Mod_deliver x8 σ) fun σ7 => (vB2 (F_Mod_end (-12) σ7) fun r11 σ9 => (some (r11, σ9))))))) = some (r, σ') := hF
  refine lv_iload hx hb d_Mod_await_254 (lv_at hl 4 rfl) ?_
  refine lv_iconst (v := 1) hx hb d_Mod_await_256 (by decide) ?_
  refine lv_icmp_le (tgt := 283) hx hb d_Mod_await_257 (by decide) (fun c1 => ?_) (fun c1 => ?_)
  · have hF := vIt c1 hF
    exact T_Mod_await_283 B hr hA  x1 x2 x3 x4 x5 x6 x7 x8 x9 x10 x11 σ  hF _ _ _ hP hD hS (lv_sub hl [0, 1, 2, 3, 4, 5, 6, 7, 8, 9, 10, 11] rfl)
  · have hF := vIf c1 hF
    refine lv_aload_n hx hb d_Mod_await_260 rfl (lv_at hl 0 rfl) ?_
    refine gf_Mod_calls B hP (by decide) L_Mod_37 d_Mod_await_261 ?_
    refine lv_iload hx hb d_Mod_await_264 (lv_at hl 8 rfl) ?_
    obtain ⟨j2, ej3, hj4, hn5, hF⟩ := vG_some hF
    refine il_Mcalls B hP (by decide) hn5 ej3 d_Mod_await_266 ?_
    refine lv_if_le (tgt := 283) hx hb d_Mod_await_267 (by decide) (fun c6 => ?_) (fun c6 => ?_)
    · have hF := vIt c6 hF
      exact T_Mod_await_283 B hr hA  x1 x2 x3 x4 x5 x6 x7 x8 x9 x10 x11 σ  hF _ _ _ hP hD hS (lv_sub hl [0, 1, 2, 3, 4, 5, 6, 7, 8, 9, 10, 11] rfl)
    · have hF := vIf c6 hF
      refine lv_aload_n hx hb d_Mod_await_270 rfl (lv_at hl 0 rfl) ?_
      refine lv_iload hx hb d_Mod_await_271 (lv_at hl 8 rfl) ?_
      obtain ⟨σ7, q8, hF⟩ := vB1_some hF
      refine ed_cvV (As := [.int x8]) (rest := []) B hP hD hS hA (C_Mod_deliver l D ad ca x8 σ σ7  q8) me_Mod_deliver mv_Mod_deliver L_Mod_217 (ed_rc_Mod B hP (by decide)) ⟨rfl, rfl⟩ ⟨Nat.le_of_ble_eq_true rfl, Nat.le_of_ble_eq_true rfl⟩ rfl rfl hl.1 (lv_room (Nat.le_of_ble_eq_true rfl)) d_Mod_await_273 (fun H locs hP hD hS => ?_)
      refine lv_aload_n hx hb d_Mod_await_276 rfl (lv_at hl 0 rfl) ?_
      refine lv_bipush (v := (-12)) hx hb d_Mod_await_277 (by decide) ?_
      obtain ⟨r11, σ9, q10, hF⟩ := vB2_some hF
      refine ed_cvI (As := [.int (-12)]) (rest := []) B hP hD hS hA (C_Mod_end l D ad ca (-12) σ7 r11 σ9  q10) me_Mod_end mv_Mod_end L_Mod_168 (ed_rc_Mod B hP (by decide)) ⟨rfl, rfl⟩ ⟨Nat.le_of_ble_eq_true rfl, Nat.le_of_ble_eq_true rfl⟩ rfl rfl hl.1 (lv_room (Nat.le_of_ble_eq_true rfl)) d_Mod_await_279 (fun H locs hP hD hS => ?_)
      exact ed_rI B hr hA hP hD hS (vP hF) d_Mod_await_282
set_option maxHeartbeats 4000000 in
set_option maxRecDepth 100000 in
theorem T_Mod_await_191 {r : Int32} {σ' : ed_S} (B : ed_B p s m args meth c prog_10_method_27_code "ExecutiveDeskModel" 13 D ca) (hr : meth.sig.returnType = (some .int)) (hA : ∀ q : Nat, s.heap.size ≤ q → A q) : ∀ (x1 : Int32) (x2 : Int32) (x3 : Int32) (x4 : Int32) (x5 : Int32) (x6 : Int32) (x7 : Int32) (x8 : Int32) (x9 : Int32) (x10 : Int32) (x11 : Int32) (σ : ed_S), F_Mod_await_191  x1 x2 x3 x4 x5 x6 x7 x8 x9 x10 x11 σ = some (r, σ') → ed_G p l e rm_Mod_await s m args below meth c D ca (md_w ad ca) A (ed_QI D ca (md_w ad ca) A below args s r σ') 13 191 [(0, .ref (ad (pMod 0))), (1, .int x1), (2, .int x2), (3, .int x3), (4, .int x4), (5, .int x5), (6, .int x6), (7, .int x7), (8, .int x8), (9, .int x9), (10, .int x10), (11, .int x11)] [] σ := by
  have hx := B.1
  have hb := B.2.1
  intro x1 x2 x3 x4 x5 x6 x7 x8 x9 x10 x11 σ  hF H locs ls hP hD hS hl
  have hF : (if x9 = x10 then (some ((-1), σ)) else (if x9 = x11 then (some ((-1), σ)) else (if x10 = x11 then (some ((-1), σ)) else (vB2 (F_Mod_lacks x1 4 σ) fun r6 σ4 => (if r6 = 0 then (if x6 = 0 then (if x7 = 0 then (F_Mod_await_254  x1 x2 x3 x4 x5 x6 x7 x8 x9 x10 x11 σ4) else (vB2 (F_Mod_lacks x3 4 σ4) fun r12 σ10 => (if r12 = 0 then (F_Mod_await_254  x1 x2 x3 x4 x5 x6 x7 x8 x9 x10 x11 σ10) else (some ((-5), σ10))))) else (vB2 (F_Mod_lacks x2 4 σ4) fun r16 σ14 => (if r16 = 0 then (if x7 = 0 then (F_Mod_await_254  x1 x2 x3 x4 x5 x6 x7 x8 x9 x10 x11 σ14) else (vB2 (F_Mod_lacks x3 4 σ14) fun r21 σ19 => (if r21 = 0 then (F_Mod_await_254  x1 x2 x3 x4 x5 x6 x7 x8 x9 x10 x11 σ19) else (some ((-5), σ19))))) else (some ((-5), σ14))))) else (some ((-5), σ4))))))) = some (r, σ') := hF
  refine lv_iload hx hb d_Mod_await_191 (lv_at hl 9 rfl) ?_
  refine lv_iload hx hb d_Mod_await_193 (lv_at hl 10 rfl) ?_
  refine lv_icmp_eq (tgt := 212) hx hb d_Mod_await_195 (by decide) (fun c1 => ?_) (fun c1 => ?_)
  · have hF := vIt c1 hF
    refine lv_iconst (v := (-1)) hx hb d_Mod_await_212 (by decide) ?_
    exact ed_rI B hr hA hP hD hS (vP hF) d_Mod_await_213
  · have hF := vIf c1 hF
    refine lv_iload hx hb d_Mod_await_198 (lv_at hl 9 rfl) ?_
    refine lv_iload hx hb d_Mod_await_200 (lv_at hl 11 rfl) ?_
    refine lv_icmp_eq (tgt := 212) hx hb d_Mod_await_202 (by decide) (fun c2 => ?_) (fun c2 => ?_)
    · have hF := vIt c2 hF
      refine lv_iconst (v := (-1)) hx hb d_Mod_await_212 (by decide) ?_
      exact ed_rI B hr hA hP hD hS (vP hF) d_Mod_await_213
    · have hF := vIf c2 hF
      refine lv_iload hx hb d_Mod_await_205 (lv_at hl 10 rfl) ?_
      refine lv_iload hx hb d_Mod_await_207 (lv_at hl 11 rfl) ?_
      refine lv_icmp_ne (tgt := 214) hx hb d_Mod_await_209 (by decide) (fun c3 => ?_) (fun c3 => ?_)
      · have hF := vIf c3 hF
        refine lv_aload_n hx hb d_Mod_await_214 rfl (lv_at hl 0 rfl) ?_
        refine lv_iload_n hx hb d_Mod_await_215 rfl (lv_at hl 1 rfl) ?_
        refine lv_iconst (v := 4) hx hb d_Mod_await_216 (by decide) ?_
        obtain ⟨r6, σ4, q5, hF⟩ := vB2_some hF
        refine ed_cvI (As := [.int x1, .int 4]) (rest := []) B hP hD hS hA (C_Mod_lacks l D ad ca x1 4 σ r6 σ4  q5) me_Mod_lacks mv_Mod_lacks L_Mod_227 (ed_rc_Mod B hP (by decide)) ⟨rfl, rfl⟩ ⟨Nat.le_of_ble_eq_true rfl, Nat.le_of_ble_eq_true rfl⟩ rfl rfl hl.1 (lv_room (Nat.le_of_ble_eq_true rfl)) d_Mod_await_217 (fun H locs hP hD hS => ?_)
        refine lv_if_ne (tgt := 251) hx hb d_Mod_await_220 (by decide) (fun c7 => ?_) (fun c7 => ?_)
        · have hF := vIf c7 hF
          refine lv_bipush (v := (-5)) hx hb d_Mod_await_251 (by decide) ?_
          exact ed_rI B hr hA hP hD hS (vP hF) d_Mod_await_253
        · have hF := vIt c7 hF
          refine lv_iload hx hb d_Mod_await_223 (lv_at hl 6 rfl) ?_
          refine lv_if_eq (tgt := 237) hx hb d_Mod_await_225 (by decide) (fun c8 => ?_) (fun c8 => ?_)
          · have hF := vIt c8 hF
            refine lv_iload hx hb d_Mod_await_237 (lv_at hl 7 rfl) ?_
            refine lv_if_eq (tgt := 254) hx hb d_Mod_await_239 (by decide) (fun c9 => ?_) (fun c9 => ?_)
            · have hF := vIt c9 hF
              exact T_Mod_await_254 B hr hA  x1 x2 x3 x4 x5 x6 x7 x8 x9 x10 x11 σ4  hF _ _ _ hP hD hS (lv_sub hl [0, 1, 2, 3, 4, 5, 6, 7, 8, 9, 10, 11] rfl)
            · have hF := vIf c9 hF
              refine lv_aload_n hx hb d_Mod_await_242 rfl (lv_at hl 0 rfl) ?_
              refine lv_iload_n hx hb d_Mod_await_243 rfl (lv_at hl 3 rfl) ?_
              refine lv_iconst (v := 4) hx hb d_Mod_await_244 (by decide) ?_
              obtain ⟨r12, σ10, q11, hF⟩ := vB2_some hF
              refine ed_cvI (As := [.int x3, .int 4]) (rest := []) B hP hD hS hA (C_Mod_lacks l D ad ca x3 4 σ4 r12 σ10  q11) me_Mod_lacks mv_Mod_lacks L_Mod_227 (ed_rc_Mod B hP (by decide)) ⟨rfl, rfl⟩ ⟨Nat.le_of_ble_eq_true rfl, Nat.le_of_ble_eq_true rfl⟩ rfl rfl hl.1 (lv_room (Nat.le_of_ble_eq_true rfl)) d_Mod_await_245 (fun H locs hP hD hS => ?_)
              refine lv_if_eq (tgt := 254) hx hb d_Mod_await_248 (by decide) (fun c13 => ?_) (fun c13 => ?_)
              · have hF := vIt c13 hF
                exact T_Mod_await_254 B hr hA  x1 x2 x3 x4 x5 x6 x7 x8 x9 x10 x11 σ10  hF _ _ _ hP hD hS (lv_sub hl [0, 1, 2, 3, 4, 5, 6, 7, 8, 9, 10, 11] rfl)
              · have hF := vIf c13 hF
                refine lv_bipush (v := (-5)) hx hb d_Mod_await_251 (by decide) ?_
                exact ed_rI B hr hA hP hD hS (vP hF) d_Mod_await_253
          · have hF := vIf c8 hF
            refine lv_aload_n hx hb d_Mod_await_228 rfl (lv_at hl 0 rfl) ?_
            refine lv_iload_n hx hb d_Mod_await_229 rfl (lv_at hl 2 rfl) ?_
            refine lv_iconst (v := 4) hx hb d_Mod_await_230 (by decide) ?_
            obtain ⟨r16, σ14, q15, hF⟩ := vB2_some hF
            refine ed_cvI (As := [.int x2, .int 4]) (rest := []) B hP hD hS hA (C_Mod_lacks l D ad ca x2 4 σ4 r16 σ14  q15) me_Mod_lacks mv_Mod_lacks L_Mod_227 (ed_rc_Mod B hP (by decide)) ⟨rfl, rfl⟩ ⟨Nat.le_of_ble_eq_true rfl, Nat.le_of_ble_eq_true rfl⟩ rfl rfl hl.1 (lv_room (Nat.le_of_ble_eq_true rfl)) d_Mod_await_231 (fun H locs hP hD hS => ?_)
            refine lv_if_ne (tgt := 251) hx hb d_Mod_await_234 (by decide) (fun c17 => ?_) (fun c17 => ?_)
            · have hF := vIf c17 hF
              refine lv_bipush (v := (-5)) hx hb d_Mod_await_251 (by decide) ?_
              exact ed_rI B hr hA hP hD hS (vP hF) d_Mod_await_253
            · have hF := vIt c17 hF
              refine lv_iload hx hb d_Mod_await_237 (lv_at hl 7 rfl) ?_
              refine lv_if_eq (tgt := 254) hx hb d_Mod_await_239 (by decide) (fun c18 => ?_) (fun c18 => ?_)
              · have hF := vIt c18 hF
                exact T_Mod_await_254 B hr hA  x1 x2 x3 x4 x5 x6 x7 x8 x9 x10 x11 σ14  hF _ _ _ hP hD hS (lv_sub hl [0, 1, 2, 3, 4, 5, 6, 7, 8, 9, 10, 11] rfl)
              · have hF := vIf c18 hF
                refine lv_aload_n hx hb d_Mod_await_242 rfl (lv_at hl 0 rfl) ?_
                refine lv_iload_n hx hb d_Mod_await_243 rfl (lv_at hl 3 rfl) ?_
                refine lv_iconst (v := 4) hx hb d_Mod_await_244 (by decide) ?_
                obtain ⟨r21, σ19, q20, hF⟩ := vB2_some hF
                refine ed_cvI (As := [.int x3, .int 4]) (rest := []) B hP hD hS hA (C_Mod_lacks l D ad ca x3 4 σ14 r21 σ19  q20) me_Mod_lacks mv_Mod_lacks L_Mod_227 (ed_rc_Mod B hP (by decide)) ⟨rfl, rfl⟩ ⟨Nat.le_of_ble_eq_true rfl, Nat.le_of_ble_eq_true rfl⟩ rfl rfl hl.1 (lv_room (Nat.le_of_ble_eq_true rfl)) d_Mod_await_245 (fun H locs hP hD hS => ?_)
                refine lv_if_eq (tgt := 254) hx hb d_Mod_await_248 (by decide) (fun c22 => ?_) (fun c22 => ?_)
                · have hF := vIt c22 hF
                  exact T_Mod_await_254 B hr hA  x1 x2 x3 x4 x5 x6 x7 x8 x9 x10 x11 σ19  hF _ _ _ hP hD hS (lv_sub hl [0, 1, 2, 3, 4, 5, 6, 7, 8, 9, 10, 11] rfl)
                · have hF := vIf c22 hF
                  refine lv_bipush (v := (-5)) hx hb d_Mod_await_251 (by decide) ?_
                  exact ed_rI B hr hA hP hD hS (vP hF) d_Mod_await_253
      · have hF := vIt c3 hF
        refine lv_iconst (v := (-1)) hx hb d_Mod_await_212 (by decide) ?_
        exact ed_rI B hr hA hP hD hS (vP hF) d_Mod_await_213
set_option maxHeartbeats 4000000 in
set_option maxRecDepth 100000 in
theorem T_Mod_await_146 {r : Int32} {σ' : ed_S} (B : ed_B p s m args meth c prog_10_method_27_code "ExecutiveDeskModel" 13 D ca) (hr : meth.sig.returnType = (some .int)) (hA : ∀ q : Nat, s.heap.size ≤ q → A q) : ∀ (x1 : Int32) (x2 : Int32) (x3 : Int32) (x4 : Int32) (x5 : Int32) (x6 : Int32) (x7 : Int32) (x8 : Int32) (x9 : Int32) (x10 : Int32) (s0 : Int32) (σ : ed_S), F_Mod_await_146  x1 x2 x3 x4 x5 x6 x7 x8 x9 x10 s0 σ = some (r, σ') → ed_G p l e rm_Mod_await s m args below meth c D ca (md_w ad ca) A (ed_QI D ca (md_w ad ca) A below args s r σ') 13 146 [(0, .ref (ad (pMod 0))), (1, .int x1), (2, .int x2), (3, .int x3), (4, .int x4), (5, .int x5), (6, .int x6), (7, .int x7), (8, .int x8), (9, .int x9), (10, .int x10)] [.int s0] σ := by
  have hx := B.1
  have hb := B.2.1
  intro x1 x2 x3 x4 x5 x6 x7 x8 x9 x10 s0 σ  hF H locs ls hP hD hS hl
  have hF : (vG x9 16 fun j1 => (if (σ 22 0 j1) = 5 then (some ((-1), σ)) else (if x6 = 0 then (if x7 = 0 then (F_Mod_await_191  x1 x2 x3 x4 x5 x6 x7 x8 x9 x10 s0 σ) else (vG s0 16 fun j8 => (if (σ 22 0 j8) = 5 then (some ((-1), σ)) else (F_Mod_await_191  x1 x2 x3 x4 x5 x6 x7 x8 x9 x10 s0 σ)))) else (vG x10 16 fun j13 => (if (σ 22 0 j13) = 5 then (some ((-1), σ)) else (if x7 = 0 then (F_Mod_await_191  x1 x2 x3 x4 x5 x6 x7 x8 x9 x10 s0 σ) else (vG s0 16 fun j19 => (if (σ 22 0 j19) = 5 then (some ((-1), σ)) else (F_Mod_await_191  x1 x2 x3 x4 x5 x6 x7 x8 x9 x10 s0 σ))))))))) = some (r, σ') := hF
  refine lv_istore (lv' := [(11, .int s0), (0, .ref (ad (pMod 0))), (1, .int x1), (2, .int x2), (3, .int x3), (4, .int x4), (5, .int x5), (6, .int x6), (7, .int x7), (8, .int x8), (9, .int x9), (10, .int x10)]) hx hb d_Mod_await_146 hl (by decide) rfl (fun ls hl => ?_)
  refine lv_aload_n hx hb d_Mod_await_148 rfl (lv_at hl 1 rfl) ?_
  refine gf_Mod_type B hP (by decide) L_Mod_77 d_Mod_await_149 ?_
  refine lv_iload hx hb d_Mod_await_152 (lv_at hl 10 rfl) ?_
  obtain ⟨j1, ej2, hj3, hn4, hF⟩ := vG_some hF
  refine il_Mtype B hP (by decide) hn4 ej2 d_Mod_await_154 ?_
  refine lv_iconst (v := 5) hx hb d_Mod_await_155 (by decide) ?_
  refine lv_icmp_eq (tgt := 212) hx hb d_Mod_await_156 (by decide) (fun c5 => ?_) (fun c5 => ?_)
  · have hF := vIt c5 hF
    refine lv_iconst (v := (-1)) hx hb d_Mod_await_212 (by decide) ?_
    exact ed_rI B hr hA hP hD hS (vP hF) d_Mod_await_213
  · have hF := vIf c5 hF
    refine lv_iload hx hb d_Mod_await_159 (lv_at hl 7 rfl) ?_
    refine lv_if_eq (tgt := 175) hx hb d_Mod_await_161 (by decide) (fun c6 => ?_) (fun c6 => ?_)
    · have hF := vIt c6 hF
      refine lv_iload hx hb d_Mod_await_175 (lv_at hl 8 rfl) ?_
      refine lv_if_eq (tgt := 191) hx hb d_Mod_await_177 (by decide) (fun c7 => ?_) (fun c7 => ?_)
      · have hF := vIt c7 hF
        exact T_Mod_await_191 B hr hA  x1 x2 x3 x4 x5 x6 x7 x8 x9 x10 s0 σ  hF _ _ _ hP hD hS (lv_sub hl [1, 2, 3, 4, 5, 6, 7, 8, 9, 10, 11, 0] rfl)
      · have hF := vIf c7 hF
        refine lv_aload_n hx hb d_Mod_await_180 rfl (lv_at hl 1 rfl) ?_
        refine gf_Mod_type B hP (by decide) L_Mod_77 d_Mod_await_181 ?_
        refine lv_iload hx hb d_Mod_await_184 (lv_at hl 0 rfl) ?_
        obtain ⟨j8, ej9, hj10, hn11, hF⟩ := vG_some hF
        refine il_Mtype B hP (by decide) hn11 ej9 d_Mod_await_186 ?_
        refine lv_iconst (v := 5) hx hb d_Mod_await_187 (by decide) ?_
        refine lv_icmp_eq (tgt := 212) hx hb d_Mod_await_188 (by decide) (fun c12 => ?_) (fun c12 => ?_)
        · have hF := vIt c12 hF
          refine lv_iconst (v := (-1)) hx hb d_Mod_await_212 (by decide) ?_
          exact ed_rI B hr hA hP hD hS (vP hF) d_Mod_await_213
        · have hF := vIf c12 hF
          exact T_Mod_await_191 B hr hA  x1 x2 x3 x4 x5 x6 x7 x8 x9 x10 s0 σ  hF _ _ _ hP hD hS (lv_sub hl [1, 2, 3, 4, 5, 6, 7, 8, 9, 10, 11, 0] rfl)
    · have hF := vIf c6 hF
      refine lv_aload_n hx hb d_Mod_await_164 rfl (lv_at hl 1 rfl) ?_
      refine gf_Mod_type B hP (by decide) L_Mod_77 d_Mod_await_165 ?_
      refine lv_iload hx hb d_Mod_await_168 (lv_at hl 11 rfl) ?_
      obtain ⟨j13, ej14, hj15, hn16, hF⟩ := vG_some hF
      refine il_Mtype B hP (by decide) hn16 ej14 d_Mod_await_170 ?_
      refine lv_iconst (v := 5) hx hb d_Mod_await_171 (by decide) ?_
      refine lv_icmp_eq (tgt := 212) hx hb d_Mod_await_172 (by decide) (fun c17 => ?_) (fun c17 => ?_)
      · have hF := vIt c17 hF
        refine lv_iconst (v := (-1)) hx hb d_Mod_await_212 (by decide) ?_
        exact ed_rI B hr hA hP hD hS (vP hF) d_Mod_await_213
      · have hF := vIf c17 hF
        refine lv_iload hx hb d_Mod_await_175 (lv_at hl 8 rfl) ?_
        refine lv_if_eq (tgt := 191) hx hb d_Mod_await_177 (by decide) (fun c18 => ?_) (fun c18 => ?_)
        · have hF := vIt c18 hF
          exact T_Mod_await_191 B hr hA  x1 x2 x3 x4 x5 x6 x7 x8 x9 x10 s0 σ  hF _ _ _ hP hD hS (lv_sub hl [1, 2, 3, 4, 5, 6, 7, 8, 9, 10, 11, 0] rfl)
        · have hF := vIf c18 hF
          refine lv_aload_n hx hb d_Mod_await_180 rfl (lv_at hl 1 rfl) ?_
          refine gf_Mod_type B hP (by decide) L_Mod_77 d_Mod_await_181 ?_
          refine lv_iload hx hb d_Mod_await_184 (lv_at hl 0 rfl) ?_
          obtain ⟨j19, ej20, hj21, hn22, hF⟩ := vG_some hF
          refine il_Mtype B hP (by decide) hn22 ej20 d_Mod_await_186 ?_
          refine lv_iconst (v := 5) hx hb d_Mod_await_187 (by decide) ?_
          refine lv_icmp_eq (tgt := 212) hx hb d_Mod_await_188 (by decide) (fun c23 => ?_) (fun c23 => ?_)
          · have hF := vIt c23 hF
            refine lv_iconst (v := (-1)) hx hb d_Mod_await_212 (by decide) ?_
            exact ed_rI B hr hA hP hD hS (vP hF) d_Mod_await_213
          · have hF := vIf c23 hF
            exact T_Mod_await_191 B hr hA  x1 x2 x3 x4 x5 x6 x7 x8 x9 x10 s0 σ  hF _ _ _ hP hD hS (lv_sub hl [1, 2, 3, 4, 5, 6, 7, 8, 9, 10, 11, 0] rfl)
set_option maxHeartbeats 4000000 in
set_option maxRecDepth 100000 in
theorem T_Mod_await_102 {r : Int32} {σ' : ed_S} (B : ed_B p s m args meth c prog_10_method_27_code "ExecutiveDeskModel" 13 D ca) (hr : meth.sig.returnType = (some .int)) (hA : ∀ q : Nat, s.heap.size ≤ q → A q) : ∀ (x1 : Int32) (x2 : Int32) (x3 : Int32) (x4 : Int32) (x5 : Int32) (x6 : Int32) (x7 : Int32) (σ : ed_S), F_Mod_await_102  x1 x2 x3 x4 x5 x6 x7 σ = some (r, σ') → ed_G p l e rm_Mod_await s m args below meth c D ca (md_w ad ca) A (ed_QI D ca (md_w ad ca) A below args s r σ') 13 102 [(0, .ref (ad (pMod 0))), (1, .int x1), (2, .int x2), (3, .int x3), (4, .int x4), (5, .int x5), (6, .int x6), (7, .int x7)] [] σ := by
  have hx := B.1
  have hb := B.2.1
  intro x1 x2 x3 x4 x5 x6 x7 σ  hF H locs ls hP hD hS hl
  have hF : (vB2 (F_Mod_objectOf x1 σ) fun r3 σ1 => (if x6 = 0 then (if x7 = 0 then (F_Mod_await_146  x1 x2 x3 x4 x5 x6 x7 (σ 44 0 0) r3 (-1) (-2) σ1) else (vB2 (F_Mod_objectOf x3 σ1) fun r8 σ6 => (F_Mod_await_146  x1 x2 x3 x4 x5 x6 x7 (σ 44 0 0) r3 (-1) r8 σ6))) else (vB2 (F_Mod_objectOf x2 σ1) fun r11 σ9 => (if x7 = 0 then (F_Mod_await_146  x1 x2 x3 x4 x5 x6 x7 (σ 44 0 0) r3 r11 (-2) σ9) else (vB2 (F_Mod_objectOf x3 σ9) fun r15 σ13 => (F_Mod_await_146  x1 x2 x3 x4 x5 x6 x7 (σ 44 0 0) r3 r11 r15 σ13)))))) = some (r, σ') := hF
  refine lv_aload_n hx hb d_Mod_await_102 rfl (lv_at hl 0 rfl) ?_
  refine gf_Mod_running B hP (by decide) L_Mod_137 d_Mod_await_103 ?_
  refine lv_istore (lv' := [(8, .int (σ 44 0 0)), (0, .ref (ad (pMod 0))), (1, .int x1), (2, .int x2), (3, .int x3), (4, .int x4), (5, .int x5), (6, .int x6), (7, .int x7)]) hx hb d_Mod_await_106 hl (by decide) rfl (fun ls hl => ?_)
  refine lv_aload_n hx hb d_Mod_await_108 rfl (lv_at hl 1 rfl) ?_
  refine lv_iload_n hx hb d_Mod_await_109 rfl (lv_at hl 2 rfl) ?_
  obtain ⟨r3, σ1, q2, hF⟩ := vB2_some hF
  refine ed_cvI (As := [.int x1]) (rest := []) B hP hD hS hA (C_Mod_objectOf l D ad ca x1 σ r3 σ1  q2) me_Mod_objectOf mv_Mod_objectOf L_Mod_224 (ed_rc_Mod B hP (by decide)) ⟨rfl, rfl⟩ ⟨Nat.le_of_ble_eq_true rfl, Nat.le_of_ble_eq_true rfl⟩ rfl rfl hl.1 (lv_room (Nat.le_of_ble_eq_true rfl)) d_Mod_await_110 (fun H locs hP hD hS => ?_)
  refine lv_istore (lv' := [(9, .int r3), (8, .int (σ 44 0 0)), (0, .ref (ad (pMod 0))), (1, .int x1), (2, .int x2), (3, .int x3), (4, .int x4), (5, .int x5), (6, .int x6), (7, .int x7)]) hx hb d_Mod_await_113 hl (by decide) rfl (fun ls hl => ?_)
  refine lv_iload hx hb d_Mod_await_115 (lv_at hl 8 rfl) ?_
  refine lv_if_eq (tgt := 128) hx hb d_Mod_await_117 (by decide) (fun c4 => ?_) (fun c4 => ?_)
  · have hF := vIt c4 hF
    refine lv_iconst (v := (-1)) hx hb d_Mod_await_128 (by decide) ?_
    refine lv_istore (lv' := [(10, .int (-1)), (9, .int r3), (8, .int (σ 44 0 0)), (0, .ref (ad (pMod 0))), (1, .int x1), (2, .int x2), (3, .int x3), (4, .int x4), (5, .int x5), (6, .int x6), (7, .int x7)]) hx hb d_Mod_await_129 hl (by decide) rfl (fun ls hl => ?_)
    refine lv_iload hx hb d_Mod_await_131 (lv_at hl 10 rfl) ?_
    refine lv_if_eq (tgt := 144) hx hb d_Mod_await_133 (by decide) (fun c5 => ?_) (fun c5 => ?_)
    · have hF := vIt c5 hF
      refine lv_bipush (v := (-2)) hx hb d_Mod_await_144 (by decide) ?_
      exact T_Mod_await_146 B hr hA  x1 x2 x3 x4 x5 x6 x7 (σ 44 0 0) r3 (-1) (-2) σ1  hF _ _ _ hP hD hS (lv_sub hl [3, 4, 5, 6, 7, 8, 9, 10, 2, 1, 0] rfl)
    · have hF := vIf c5 hF
      refine lv_aload_n hx hb d_Mod_await_136 rfl (lv_at hl 3 rfl) ?_
      refine lv_iload_n hx hb d_Mod_await_137 rfl (lv_at hl 6 rfl) ?_
      obtain ⟨r8, σ6, q7, hF⟩ := vB2_some hF
      refine ed_cvI (As := [.int x3]) (rest := []) B hP hD hS hA (C_Mod_objectOf l D ad ca x3 σ1 r8 σ6  q7) me_Mod_objectOf mv_Mod_objectOf L_Mod_224 (ed_rc_Mod B hP (by decide)) ⟨rfl, rfl⟩ ⟨Nat.le_of_ble_eq_true rfl, Nat.le_of_ble_eq_true rfl⟩ rfl rfl hl.1 (lv_room (Nat.le_of_ble_eq_true rfl)) d_Mod_await_138 (fun H locs hP hD hS => ?_)
      refine lv_goto (tgt := 146) hx hb d_Mod_await_141 (by decide) ?_
      exact T_Mod_await_146 B hr hA  x1 x2 x3 x4 x5 x6 x7 (σ 44 0 0) r3 (-1) r8 σ6  hF _ _ _ hP hD hS (lv_sub hl [3, 4, 5, 6, 7, 8, 9, 10, 2, 1, 0] rfl)
  · have hF := vIf c4 hF
    refine lv_aload_n hx hb d_Mod_await_120 rfl (lv_at hl 2 rfl) ?_
    refine lv_iload_n hx hb d_Mod_await_121 rfl (lv_at hl 4 rfl) ?_
    obtain ⟨r11, σ9, q10, hF⟩ := vB2_some hF
    refine ed_cvI (As := [.int x2]) (rest := []) B hP hD hS hA (C_Mod_objectOf l D ad ca x2 σ1 r11 σ9  q10) me_Mod_objectOf mv_Mod_objectOf L_Mod_224 (ed_rc_Mod B hP (by decide)) ⟨rfl, rfl⟩ ⟨Nat.le_of_ble_eq_true rfl, Nat.le_of_ble_eq_true rfl⟩ rfl rfl hl.1 (lv_room (Nat.le_of_ble_eq_true rfl)) d_Mod_await_122 (fun H locs hP hD hS => ?_)
    refine lv_goto (tgt := 129) hx hb d_Mod_await_125 (by decide) ?_
    refine lv_istore (lv' := [(10, .int r11), (9, .int r3), (8, .int (σ 44 0 0)), (0, .ref (ad (pMod 0))), (1, .int x1), (2, .int x2), (3, .int x3), (4, .int x4), (5, .int x5), (6, .int x6), (7, .int x7)]) hx hb d_Mod_await_129 hl (by decide) rfl (fun ls hl => ?_)
    refine lv_iload hx hb d_Mod_await_131 (lv_at hl 10 rfl) ?_
    refine lv_if_eq (tgt := 144) hx hb d_Mod_await_133 (by decide) (fun c12 => ?_) (fun c12 => ?_)
    · have hF := vIt c12 hF
      refine lv_bipush (v := (-2)) hx hb d_Mod_await_144 (by decide) ?_
      exact T_Mod_await_146 B hr hA  x1 x2 x3 x4 x5 x6 x7 (σ 44 0 0) r3 r11 (-2) σ9  hF _ _ _ hP hD hS (lv_sub hl [3, 4, 5, 6, 7, 8, 9, 10, 2, 1, 0] rfl)
    · have hF := vIf c12 hF
      refine lv_aload_n hx hb d_Mod_await_136 rfl (lv_at hl 3 rfl) ?_
      refine lv_iload_n hx hb d_Mod_await_137 rfl (lv_at hl 6 rfl) ?_
      obtain ⟨r15, σ13, q14, hF⟩ := vB2_some hF
      refine ed_cvI (As := [.int x3]) (rest := []) B hP hD hS hA (C_Mod_objectOf l D ad ca x3 σ9 r15 σ13  q14) me_Mod_objectOf mv_Mod_objectOf L_Mod_224 (ed_rc_Mod B hP (by decide)) ⟨rfl, rfl⟩ ⟨Nat.le_of_ble_eq_true rfl, Nat.le_of_ble_eq_true rfl⟩ rfl rfl hl.1 (lv_room (Nat.le_of_ble_eq_true rfl)) d_Mod_await_138 (fun H locs hP hD hS => ?_)
      refine lv_goto (tgt := 146) hx hb d_Mod_await_141 (by decide) ?_
      exact T_Mod_await_146 B hr hA  x1 x2 x3 x4 x5 x6 x7 (σ 44 0 0) r3 r11 r15 σ13  hF _ _ _ hP hD hS (lv_sub hl [3, 4, 5, 6, 7, 8, 9, 10, 2, 1, 0] rfl)
set_option maxHeartbeats 4000000 in
set_option maxRecDepth 100000 in
theorem T_Mod_await_43 {r : Int32} {σ' : ed_S} (B : ed_B p s m args meth c prog_10_method_27_code "ExecutiveDeskModel" 13 D ca) (hr : meth.sig.returnType = (some .int)) (hA : ∀ q : Nat, s.heap.size ≤ q → A q) : ∀ (x1 : Int32) (x2 : Int32) (x3 : Int32) (x4 : Int32) (x5 : Int32) (x6 : Int32) (s0 : Int32) (σ : ed_S), F_Mod_await_43  x1 x2 x3 x4 x5 x6 s0 σ = some (r, σ') → ed_G p l e rm_Mod_await s m args below meth c D ca (md_w ad ca) A (ed_QI D ca (md_w ad ca) A below args s r σ') 13 43 [(0, .ref (ad (pMod 0))), (1, .int x1), (2, .int x2), (3, .int x3), (4, .int x4), (5, .int x5), (6, .int x6)] [.int s0] σ := by
  have hx := B.1
  have hb := B.2.1
  intro x1 x2 x3 x4 x5 x6 s0 σ  hF H locs ls hP hD hS hl
  have hF : (vB2 (F_Mod_is x4 0 3 σ) fun r3 σ1 => (if r3 = 0 then (some ((-1), σ1)) else (vB2 (F_Mod_is x5 (-1) 99 σ1) fun r7 σ5 => (if r7 = 0 then (some ((-1), σ5)) else (vB2 (F_Mod_isHandle x1 σ5) fun r11 σ9 => (if r11 = 0 then (some ((-1), σ9)) else (if x6 = 0 then (if s0 = 0 then (F_Mod_await_102  x1 x2 x3 x4 x5 x6 s0 σ9) else (vB2 (F_Mod_isHandle x3 σ9) fun r17 σ15 => (if r17 = 0 then (some ((-1), σ15)) else (F_Mod_await_102  x1 x2 x3 x4 x5 x6 s0 σ15)))) else (vB2 (F_Mod_isHandle x2 σ9) fun r21 σ19 => (if r21 = 0 then (some ((-1), σ19)) else (if s0 = 0 then (F_Mod_await_102  x1 x2 x3 x4 x5 x6 s0 σ19) else (vB2 (F_Mod_isHandle x3 σ19) fun r26 σ24 => (if r26 = 0 then (some ((-1), σ24)) else (F_Mod_await_102  x1 x2 x3 x4 x5 x6 s0 σ24))))))))))))) = some (r, σ') := hF
  refine lv_istore (lv' := [(7, .int s0), (0, .ref (ad (pMod 0))), (1, .int x1), (2, .int x2), (3, .int x3), (4, .int x4), (5, .int x5), (6, .int x6)]) hx hb d_Mod_await_43 hl (by decide) rfl (fun ls hl => ?_)
  refine lv_iload hx hb d_Mod_await_45 (lv_at hl 5 rfl) ?_
  refine lv_iconst (v := 0) hx hb d_Mod_await_47 (by decide) ?_
  refine lv_iconst (v := 3) hx hb d_Mod_await_48 (by decide) ?_
  obtain ⟨r3, σ1, q2, hF⟩ := vB2_some hF
  refine ed_csI (As := [.int x4, .int 0, .int 3]) (rest := []) B hP hD hS hA (C_Mod_is l D ad ca x4 0 3 σ r3 σ1  q2) me_Mod_is st_Mod_is L_Mod_157 ⟨rfl, rfl⟩ ⟨Nat.le_of_ble_eq_true rfl, Nat.le_of_ble_eq_true rfl⟩ rfl rfl hl.1 (lv_room (Nat.le_of_ble_eq_true rfl)) d_Mod_await_49 (fun H locs hP hD hS => ?_)
  refine lv_if_eq (tgt := 100) hx hb d_Mod_await_52 (by decide) (fun c4 => ?_) (fun c4 => ?_)
  · have hF := vIt c4 hF
    refine lv_iconst (v := (-1)) hx hb d_Mod_await_100 (by decide) ?_
    exact ed_rI B hr hA hP hD hS (vP hF) d_Mod_await_101
  · have hF := vIf c4 hF
    refine lv_iload hx hb d_Mod_await_55 (lv_at hl 6 rfl) ?_
    refine lv_iconst (v := (-1)) hx hb d_Mod_await_57 (by decide) ?_
    refine lv_bipush (v := 99) hx hb d_Mod_await_58 (by decide) ?_
    obtain ⟨r7, σ5, q6, hF⟩ := vB2_some hF
    refine ed_csI (As := [.int x5, .int (-1), .int 99]) (rest := []) B hP hD hS hA (C_Mod_is l D ad ca x5 (-1) 99 σ1 r7 σ5  q6) me_Mod_is st_Mod_is L_Mod_157 ⟨rfl, rfl⟩ ⟨Nat.le_of_ble_eq_true rfl, Nat.le_of_ble_eq_true rfl⟩ rfl rfl hl.1 (lv_room (Nat.le_of_ble_eq_true rfl)) d_Mod_await_60 (fun H locs hP hD hS => ?_)
    refine lv_if_eq (tgt := 100) hx hb d_Mod_await_63 (by decide) (fun c8 => ?_) (fun c8 => ?_)
    · have hF := vIt c8 hF
      refine lv_iconst (v := (-1)) hx hb d_Mod_await_100 (by decide) ?_
      exact ed_rI B hr hA hP hD hS (vP hF) d_Mod_await_101
    · have hF := vIf c8 hF
      refine lv_aload_n hx hb d_Mod_await_66 rfl (lv_at hl 1 rfl) ?_
      refine lv_iload_n hx hb d_Mod_await_67 rfl (lv_at hl 2 rfl) ?_
      obtain ⟨r11, σ9, q10, hF⟩ := vB2_some hF
      refine ed_cvI (As := [.int x1]) (rest := []) B hP hD hS hA (C_Mod_isHandle l D ad ca x1 σ5 r11 σ9  q10) me_Mod_isHandle mv_Mod_isHandle L_Mod_220 (ed_rc_Mod B hP (by decide)) ⟨rfl, rfl⟩ ⟨Nat.le_of_ble_eq_true rfl, Nat.le_of_ble_eq_true rfl⟩ rfl rfl hl.1 (lv_room (Nat.le_of_ble_eq_true rfl)) d_Mod_await_68 (fun H locs hP hD hS => ?_)
      refine lv_if_eq (tgt := 100) hx hb d_Mod_await_71 (by decide) (fun c12 => ?_) (fun c12 => ?_)
      · have hF := vIt c12 hF
        refine lv_iconst (v := (-1)) hx hb d_Mod_await_100 (by decide) ?_
        exact ed_rI B hr hA hP hD hS (vP hF) d_Mod_await_101
      · have hF := vIf c12 hF
        refine lv_iload hx hb d_Mod_await_74 (lv_at hl 7 rfl) ?_
        refine lv_if_eq (tgt := 87) hx hb d_Mod_await_76 (by decide) (fun c13 => ?_) (fun c13 => ?_)
        · have hF := vIt c13 hF
          refine lv_iload hx hb d_Mod_await_87 (lv_at hl 0 rfl) ?_
          refine lv_if_eq (tgt := 102) hx hb d_Mod_await_89 (by decide) (fun c14 => ?_) (fun c14 => ?_)
          · have hF := vIt c14 hF
            exact T_Mod_await_102 B hr hA  x1 x2 x3 x4 x5 x6 s0 σ9  hF _ _ _ hP hD hS (lv_sub hl [1, 2, 3, 4, 5, 6, 7, 0] rfl)
          · have hF := vIf c14 hF
            refine lv_aload_n hx hb d_Mod_await_92 rfl (lv_at hl 1 rfl) ?_
            refine lv_iload_n hx hb d_Mod_await_93 rfl (lv_at hl 4 rfl) ?_
            obtain ⟨r17, σ15, q16, hF⟩ := vB2_some hF
            refine ed_cvI (As := [.int x3]) (rest := []) B hP hD hS hA (C_Mod_isHandle l D ad ca x3 σ9 r17 σ15  q16) me_Mod_isHandle mv_Mod_isHandle L_Mod_220 (ed_rc_Mod B hP (by decide)) ⟨rfl, rfl⟩ ⟨Nat.le_of_ble_eq_true rfl, Nat.le_of_ble_eq_true rfl⟩ rfl rfl hl.1 (lv_room (Nat.le_of_ble_eq_true rfl)) d_Mod_await_94 (fun H locs hP hD hS => ?_)
            refine lv_if_ne (tgt := 102) hx hb d_Mod_await_97 (by decide) (fun c18 => ?_) (fun c18 => ?_)
            · have hF := vIf c18 hF
              exact T_Mod_await_102 B hr hA  x1 x2 x3 x4 x5 x6 s0 σ15  hF _ _ _ hP hD hS (lv_sub hl [1, 2, 3, 4, 5, 6, 7, 0] rfl)
            · have hF := vIt c18 hF
              refine lv_iconst (v := (-1)) hx hb d_Mod_await_100 (by decide) ?_
              exact ed_rI B hr hA hP hD hS (vP hF) d_Mod_await_101
        · have hF := vIf c13 hF
          refine lv_aload_n hx hb d_Mod_await_79 rfl (lv_at hl 1 rfl) ?_
          refine lv_iload_n hx hb d_Mod_await_80 rfl (lv_at hl 3 rfl) ?_
          obtain ⟨r21, σ19, q20, hF⟩ := vB2_some hF
          refine ed_cvI (As := [.int x2]) (rest := []) B hP hD hS hA (C_Mod_isHandle l D ad ca x2 σ9 r21 σ19  q20) me_Mod_isHandle mv_Mod_isHandle L_Mod_220 (ed_rc_Mod B hP (by decide)) ⟨rfl, rfl⟩ ⟨Nat.le_of_ble_eq_true rfl, Nat.le_of_ble_eq_true rfl⟩ rfl rfl hl.1 (lv_room (Nat.le_of_ble_eq_true rfl)) d_Mod_await_81 (fun H locs hP hD hS => ?_)
          refine lv_if_eq (tgt := 100) hx hb d_Mod_await_84 (by decide) (fun c22 => ?_) (fun c22 => ?_)
          · have hF := vIt c22 hF
            refine lv_iconst (v := (-1)) hx hb d_Mod_await_100 (by decide) ?_
            exact ed_rI B hr hA hP hD hS (vP hF) d_Mod_await_101
          · have hF := vIf c22 hF
            refine lv_iload hx hb d_Mod_await_87 (lv_at hl 0 rfl) ?_
            refine lv_if_eq (tgt := 102) hx hb d_Mod_await_89 (by decide) (fun c23 => ?_) (fun c23 => ?_)
            · have hF := vIt c23 hF
              exact T_Mod_await_102 B hr hA  x1 x2 x3 x4 x5 x6 s0 σ19  hF _ _ _ hP hD hS (lv_sub hl [1, 2, 3, 4, 5, 6, 7, 0] rfl)
            · have hF := vIf c23 hF
              refine lv_aload_n hx hb d_Mod_await_92 rfl (lv_at hl 1 rfl) ?_
              refine lv_iload_n hx hb d_Mod_await_93 rfl (lv_at hl 4 rfl) ?_
              obtain ⟨r26, σ24, q25, hF⟩ := vB2_some hF
              refine ed_cvI (As := [.int x3]) (rest := []) B hP hD hS hA (C_Mod_isHandle l D ad ca x3 σ19 r26 σ24  q25) me_Mod_isHandle mv_Mod_isHandle L_Mod_220 (ed_rc_Mod B hP (by decide)) ⟨rfl, rfl⟩ ⟨Nat.le_of_ble_eq_true rfl, Nat.le_of_ble_eq_true rfl⟩ rfl rfl hl.1 (lv_room (Nat.le_of_ble_eq_true rfl)) d_Mod_await_94 (fun H locs hP hD hS => ?_)
              refine lv_if_ne (tgt := 102) hx hb d_Mod_await_97 (by decide) (fun c27 => ?_) (fun c27 => ?_)
              · have hF := vIf c27 hF
                exact T_Mod_await_102 B hr hA  x1 x2 x3 x4 x5 x6 s0 σ24  hF _ _ _ hP hD hS (lv_sub hl [1, 2, 3, 4, 5, 6, 7, 0] rfl)
              · have hF := vIt c27 hF
                refine lv_iconst (v := (-1)) hx hb d_Mod_await_100 (by decide) ?_
                exact ed_rI B hr hA hP hD hS (vP hF) d_Mod_await_101
set_option maxHeartbeats 4000000 in
set_option maxRecDepth 100000 in
theorem T_Mod_await {r : Int32} {σ' : ed_S} (B : ed_B p s m args meth c prog_10_method_27_code "ExecutiveDeskModel" 13 D ca) (hr : meth.sig.returnType = (some .int)) (hA : ∀ q : Nat, s.heap.size ≤ q → A q) : ∀ (x1 : Int32) (x2 : Int32) (x3 : Int32) (x4 : Int32) (x5 : Int32) (σ : ed_S), F_Mod_await  x1 x2 x3 x4 x5 σ = some (r, σ') → ed_G p l e rm_Mod_await s m args below meth c D ca (md_w ad ca) A (ed_QI D ca (md_w ad ca) A below args s r σ') 13 0 [(0, .ref (ad (pMod 0))), (1, .int x1), (2, .int x2), (3, .int x3), (4, .int x4), (5, .int x5)] [] σ := by
  have hx := B.1
  have hb := B.2.1
  intro x1 x2 x3 x4 x5 σ  hF H locs ls hP hD hS hl
  have hF : (if 0 ≤ (σ 44 0 0) then (if (σ 47 0 0) = 1 then (some ((-4), σ)) else (if x2 = (-1) then (if x3 = (-1) then (F_Mod_await_43  x1 x2 x3 x4 x5 0 0 σ) else (F_Mod_await_43  x1 x2 x3 x4 x5 0 1 σ)) else (if x3 = (-1) then (F_Mod_await_43  x1 x2 x3 x4 x5 1 0 σ) else (F_Mod_await_43  x1 x2 x3 x4 x5 1 1 σ)))) else (some ((-3), σ))) = some (r, σ') := hF
  refine lv_aload_n hx hb d_Mod_await_0 rfl (lv_at hl 0 rfl) ?_
  refine gf_Mod_running B hP (by decide) L_Mod_137 d_Mod_await_1 ?_
  refine lv_if_ge (tgt := 10) hx hb d_Mod_await_4 (by decide) (fun c1 => ?_) (fun c1 => ?_)
  · have hF := vIt c1 hF
    refine lv_aload_n hx hb d_Mod_await_10 rfl (lv_at hl 0 rfl) ?_
    refine gf_Mod_level B hP (by decide) L_Mod_177 d_Mod_await_11 ?_
    refine lv_iconst (v := 1) hx hb d_Mod_await_14 (by decide) ?_
    refine lv_icmp_ne (tgt := 21) hx hb d_Mod_await_15 (by decide) (fun c2 => ?_) (fun c2 => ?_)
    · have hF := vIf c2 hF
      refine lv_iload_n hx hb d_Mod_await_21 rfl (lv_at hl 2 rfl) ?_
      refine lv_iconst (v := (-1)) hx hb d_Mod_await_22 (by decide) ?_
      refine lv_icmp_eq (tgt := 30) hx hb d_Mod_await_23 (by decide) (fun c3 => ?_) (fun c3 => ?_)
      · have hF := vIt c3 hF
        refine lv_iconst (v := 0) hx hb d_Mod_await_30 (by decide) ?_
        refine lv_istore (lv' := [(6, .int 0), (0, .ref (ad (pMod 0))), (1, .int x1), (2, .int x2), (3, .int x3), (4, .int x4), (5, .int x5)]) hx hb d_Mod_await_31 hl (by decide) rfl (fun ls hl => ?_)
        refine lv_iload_n hx hb d_Mod_await_33 rfl (lv_at hl 4 rfl) ?_
        refine lv_iconst (v := (-1)) hx hb d_Mod_await_34 (by decide) ?_
        refine lv_icmp_eq (tgt := 42) hx hb d_Mod_await_35 (by decide) (fun c4 => ?_) (fun c4 => ?_)
        · have hF := vIt c4 hF
          refine lv_iconst (v := 0) hx hb d_Mod_await_42 (by decide) ?_
          exact T_Mod_await_43 B hr hA  x1 x2 x3 x4 x5 0 0 σ  hF _ _ _ hP hD hS (lv_sub hl [1, 2, 3, 4, 5, 6, 0] rfl)
        · have hF := vIf c4 hF
          refine lv_iconst (v := 1) hx hb d_Mod_await_38 (by decide) ?_
          refine lv_goto (tgt := 43) hx hb d_Mod_await_39 (by decide) ?_
          exact T_Mod_await_43 B hr hA  x1 x2 x3 x4 x5 0 1 σ  hF _ _ _ hP hD hS (lv_sub hl [1, 2, 3, 4, 5, 6, 0] rfl)
      · have hF := vIf c3 hF
        refine lv_iconst (v := 1) hx hb d_Mod_await_26 (by decide) ?_
        refine lv_goto (tgt := 31) hx hb d_Mod_await_27 (by decide) ?_
        refine lv_istore (lv' := [(6, .int 1), (0, .ref (ad (pMod 0))), (1, .int x1), (2, .int x2), (3, .int x3), (4, .int x4), (5, .int x5)]) hx hb d_Mod_await_31 hl (by decide) rfl (fun ls hl => ?_)
        refine lv_iload_n hx hb d_Mod_await_33 rfl (lv_at hl 4 rfl) ?_
        refine lv_iconst (v := (-1)) hx hb d_Mod_await_34 (by decide) ?_
        refine lv_icmp_eq (tgt := 42) hx hb d_Mod_await_35 (by decide) (fun c5 => ?_) (fun c5 => ?_)
        · have hF := vIt c5 hF
          refine lv_iconst (v := 0) hx hb d_Mod_await_42 (by decide) ?_
          exact T_Mod_await_43 B hr hA  x1 x2 x3 x4 x5 1 0 σ  hF _ _ _ hP hD hS (lv_sub hl [1, 2, 3, 4, 5, 6, 0] rfl)
        · have hF := vIf c5 hF
          refine lv_iconst (v := 1) hx hb d_Mod_await_38 (by decide) ?_
          refine lv_goto (tgt := 43) hx hb d_Mod_await_39 (by decide) ?_
          exact T_Mod_await_43 B hr hA  x1 x2 x3 x4 x5 1 1 σ  hF _ _ _ hP hD hS (lv_sub hl [1, 2, 3, 4, 5, 6, 0] rfl)
    · have hF := vIt c2 hF
      refine lv_bipush (v := (-4)) hx hb d_Mod_await_18 (by decide) ?_
      exact ed_rI B hr hA hP hD hS (vP hF) d_Mod_await_20
  · have hF := vIf c1 hF
    refine lv_bipush (v := (-3)) hx hb d_Mod_await_7 (by decide) ?_
    exact ed_rI B hr hA hP hD hS (vP hF) d_Mod_await_9
set_option maxHeartbeats 4000000 in
set_option maxRecDepth 100000 in
theorem C_Mod_await (l : Launch) (D : va_G) (ad : Nat → Nat) (ca : Nat → ClassId) (x1 : Int32) (x2 : Int32) (x3 : Int32) (x4 : Int32) (x5 : Int32) (σ : ed_S) (r : Int32) (σ' : ed_S) (hF : F_Mod_await x1 x2 x3 x4 x5 σ = some (r, σ')) : ed_MI l y_Mod_await ws_Mod_await rm_Mod_await D ca (md_w ad ca) [.ref (ad (pMod 0)), .int x1, .int x2, .int x3, .int x4, .int x5] σ r σ' := by
  refine ed_metI (cc := prog_10_method_27_code) (own := "ExecutiveDeskModel") (nL := 13) (ret := (some .int)) (by decide) rfl rfl (Nat.le_of_ble_eq_true rfl) ?_
  intro p e s m args below meth c A B hr hA
  exact T_Mod_await B hr hA x1 x2 x3 x4 x5 σ  hF
end EDT
