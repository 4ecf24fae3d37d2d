section EDT
variable {p : Program} {l : Launch} {e : Env} {s : State} {m : MethodId} {args : Array Value} {below : List Frame} {meth : Method} {c : Code} {D : va_G} {ad : Nat → Nat} {ca : Nat → ClassId} {A : Nat → Prop}
abbrev ws_Mod_use : List Cond := Cond.code y_Mod_use prog_10_method_29_code 4 (some .int) :: ed_tb
abbrev rm_Mod_use : Room := { frames := 0, cells := 0, slots := 0, locals := 0 }
def F_Mod_use (x1 : Int32) (x2 : Int32) (x3 : Int32) (σ : ed_S) : Option (Int32 × ed_S) := (vG (σ 44 0 0) 8 fun j1 => (vG ((8 * (σ 5 0 j1)) + x1) 32 fun j5 => vL (ed_st σ 3 0 j5 x2) fun σ9 => (vG (σ9 44 0 0) 8 fun j11 => (vG ((8 * (σ9 5 0 j11)) + x1) 32 fun j15 => vL (ed_st σ9 4 0 j15 x3) fun σ19 => (some (x1, σ19))))))
set_option maxHeartbeats 4000000 in
set_option maxRecDepth 100000 in
theorem T_Mod_use {r : Int32} {σ' : ed_S} (B : ed_B p s m args meth c prog_10_method_29_code "ExecutiveDeskModel" 4 D ca) (hr : meth.sig.returnType = (some .int)) (hA : ∀ q : Nat, s.heap.size ≤ q → A q) : ∀ (x1 : Int32) (x2 : Int32) (x3 : Int32) (σ : ed_S), F_Mod_use  x1 x2 x3 σ = some (r, σ') → ed_G p l e rm_Mod_use s m args below meth c D ca (md_w ad ca) A (ed_QI D ca (md_w ad ca) A below args s r σ') 4 0 [(0, .ref (ad (pMod 0))), (1, .int x1), (2, .int x2), (3, .int x3)] [] σ := by
  have hx := B.1
  have hb := B.2.1
  intro x1 x2 x3 σ  hF H locs ls hP hD hS hl
  have hF : (vG (σ 44 0 0) 8 fun j1 => (vG ((8 * (σ 5 0 j1)) + x1) 32 fun j5 => vL (ed_st σ 3 0 j5 x2) fun σ9 => (vG (σ9 44 0 0) 8 fun j11 => (vG ((8 * (σ9 5 0 j11)) + x1) 32 fun j15 => vL (ed_st σ9 4 0 j15 x3) fun σ19 => (some (x1, σ19)))))) = some (r, σ') := hF
  refine lv_aload_n hx hb d_Mod_use_0 rfl (lv_at hl 0 rfl) ?_
  refine gf_Mod_handleObject B hP (by decide) L_Mod_19 d_Mod_use_1 ?_
  refine lv_bipush (v := 8) hx hb d_Mod_use_4 (by decide) ?_
  refine lv_aload_n hx hb d_Mod_use_6 rfl (lv_at hl 0 rfl) ?_
  refine gf_Mod_home B hP (by decide) L_Mod_25 d_Mod_use_7 ?_
  refine lv_aload_n hx hb d_Mod_use_10 rfl (lv_at hl 0 rfl) ?_
  refine gf_Mod_running B hP (by decide) L_Mod_137 d_Mod_use_11 ?_
  obtain ⟨j1, ej2, hj3, hn4, hF⟩ := vG_some hF
  refine il_Mhome B hP (by decide) hn4 ej2 d_Mod_use_14 ?_
  refine lv_imul hx hb d_Mod_use_15 ?_
  refine lv_iload_n hx hb d_Mod_use_16 rfl (lv_at hl 1 rfl) ?_
  refine lv_iadd hx hb d_Mod_use_17 ?_
  refine lv_iload_n hx hb d_Mod_use_18 rfl (lv_at hl 2 rfl) ?_
  obtain ⟨j5, ej6, hj7, hn8, hF⟩ := vG_some hF
  obtain ⟨σ9, e10, hF⟩ := vL_some hF
  refine is_MhandleObject B hP hD hS (by decide) hn8 ej6 e10 d_Mod_use_19 (fun H locs hP hD hS => ?_)
  refine lv_aload_n hx hb d_Mod_use_20 rfl (lv_at hl 0 rfl) ?_
  refine gf_Mod_handleRights B hP (by decide) L_Mod_22 d_Mod_use_21 ?_
  refine lv_bipush (v := 8) hx hb d_Mod_use_24 (by decide) ?_
  refine lv_aload_n hx hb d_Mod_use_26 rfl (lv_at hl 0 rfl) ?_
  refine gf_Mod_home B hP (by decide) L_Mod_25 d_Mod_use_27 ?_
  refine lv_aload_n hx hb d_Mod_use_30 rfl (lv_at hl 0 rfl) ?_
  refine gf_Mod_running B hP (by decide) L_Mod_137 d_Mod_use_31 ?_
  obtain ⟨j11, ej12, hj13, hn14, hF⟩ := vG_some hF
  refine il_Mhome B hP (by decide) hn14 ej12 d_Mod_use_34 ?_
  refine lv_imul hx hb d_Mod_use_35 ?_
  refine lv_iload_n hx hb d_Mod_use_36 rfl (lv_at hl 1 rfl) ?_
  refine lv_iadd hx hb d_Mod_use_37 ?_
  refine lv_iload_n hx hb d_Mod_use_38 rfl (lv_at hl 3 rfl) ?_
  obtain ⟨j15, ej16, hj17, hn18, hF⟩ := vG_some hF
  obtain ⟨σ19, e20, hF⟩ := vL_some hF
  refine is_MhandleRights B hP hD hS (by decide) hn18 ej16 e20 d_Mod_use_39 (fun H locs hP hD hS => ?_)
  refine lv_iload_n hx hb d_Mod_use_40 rfl (lv_at hl 1 rfl) ?_
  exact ed_rI B hr hA hP hD hS (vP hF) d_Mod_use_41
set_option maxHeartbeats 4000000 in
set_option maxRecDepth 100000 in
theorem C_Mod_use (l : Launch) (D : va_G) (ad : Nat → Nat) (ca : Nat → ClassId) (x1 : Int32) (x2 : Int32) (x3 : Int32) (σ : ed_S) (r : Int32) (σ' : ed_S) (hF : F_Mod_use x1 x2 x3 σ = some (r, σ')) : ed_MI l y_Mod_use ws_Mod_use rm_Mod_use D ca (md_w ad ca) [.ref (ad (pMod 0)), .int x1, .int x2, .int x3] σ r σ' := by
  refine ed_metI (cc := prog_10_method_29_code) (own := "ExecutiveDeskModel") (nL := 4) (ret := (some .int)) (by decide) rfl rfl (Nat.le_of_ble_eq_true rfl) ?_
  intro p e s m args below meth c A B hr hA
  exact T_Mod_use B hr hA x1 x2 x3 σ  hF
abbrev ws_Mod_create : List Cond := Cond.code y_Mod_create prog_10_method_28_code 7 (some .int) :: ed_tb
abbrev rm_Mod_create : Room := { frames := 1, cells := 0, slots := 0, locals := 23 }
def F_Mod_create_217 (x1 : Int32) (x2 : Int32) (x3 : Int32) (x4 : Int32) (x5 : Int32) (x6 : Int32) (s0 : Int32) (s1 : Int32) (σ : ed_S) : Option (Int32 × ed_S) := (vG s1 16 fun j1 => vL (ed_st σ 25 0 j1 s0) fun σ5 => (vG x5 16 fun j7 => vL (ed_st σ5 26 0 j7 0) fun σ11 => (vG x5 16 fun j13 => vL (ed_st σ11 27 0 j13 0) fun σ17 => (vB2 (F_Mod_use x6 x5 7 σ17) fun r21 σ19 => (some (r21, σ19))))))
def F_Mod_create_176 (x1 : Int32) (x2 : Int32) (x3 : Int32) (x4 : Int32) (x5 : Int32) (x6 : Int32) (s0 : Int32) (s1 : Int32) (σ : ed_S) : Option (Int32 × ed_S) := (vC (s0 = 0 ∨ s0 = 1) (vG s1 16 fun j1 => vL (ed_st σ 20 0 j1 s0) fun σ5 => (vG x5 16 fun j8 => vL (ed_st σ5 21 0 j8 0) fun σ12 => (vG x5 16 fun j14 => vL (ed_st σ12 24 0 j14 x2) fun σ18 => (if x1 = 2 then (if x2 = 1 then (F_Mod_create_217  x1 x2 x3 x4 x5 x6 (σ18 44 0 0) x5 σ18) else (F_Mod_create_217  x1 x2 x3 x4 x5 x6 (-1) x5 σ18)) else (F_Mod_create_217  x1 x2 x3 x4 x5 x6 (-1) x5 σ18))))))
def F_Mod_create_116 (x1 : Int32) (x2 : Int32) (x3 : Int32) (x4 : Int32) (x5 : Int32) (x6 : Int32) (σ : ed_S) : Option (Int32 × ed_S) := (if x6 < 0 then (some ((-2), σ)) else (if x5 = 16 then (some ((-2), σ)) else (vG x5 16 fun j3 => vL (ed_st σ 19 0 j3 1) fun σ7 => (vG x5 16 fun j9 => vL (ed_st σ7 22 0 j9 x1) fun σ13 => (vG x5 16 fun j15 => vL (ed_st σ13 23 0 j15 x3) fun σ19 => (if 2 ≤ x1 then (F_Mod_create_176  x1 x2 x3 x4 x5 x6 0 x5 σ19) else (if x2 = 1 then (F_Mod_create_176  x1 x2 x3 x4 x5 x6 1 x5 σ19) else (F_Mod_create_176  x1 x2 x3 x4 x5 x6 0 x5 σ19))))))))
def F_Mod_create_93 : Nat → Int32 → Int32 → Int32 → Int32 → Int32 → Int32 → ed_S → Option (Int32 × ed_S)
  | 0, _, _, _, _, _, _, _ => none
  | n + 1, x1, x2, x3, x4, x5, x6, σ => (if 16 ≤ x5 then (F_Mod_create_116  x1 x2 x3 x4 x5 x6 σ) else (vG x5 16 fun j2 => (if (σ 19 0 j2) = 0 then (F_Mod_create_116  x1 x2 x3 x4 x5 x6 σ) else ((F_Mod_create_93  n) x1 x2 x3 x4 (x5 + 1) x6 σ))))
def F_Mod_create_40 (x1 : Int32) (x2 : Int32) (x3 : Int32) (s0 : Int32) (σ : ed_S) : Option (Int32 × ed_S) := (vB2 (F_Mod_is x1 0 5 σ) fun r3 σ1 => (if r3 = 0 then (some ((-1), σ1)) else (vB2 (F_Mod_is x2 0 s0 σ1) fun r7 σ5 => (if r7 = 0 then (some ((-1), σ5)) else (vB2 (F_Mod_is x3 (-1) 15 σ5) fun r11 σ9 => (if r11 = 0 then (some ((-1), σ9)) else (vB2 (F_Mod_named x3 σ9) fun r15 σ13 => (if r15 < 0 then (vB2 (F_Mod_freeHandle  σ13) fun r19 σ17 => (F_Mod_create_93  ed_fu x1 x2 x3 s0 0 r19 σ17)) else (some ((-6), σ13))))))))))
def F_Mod_create (x1 : Int32) (x2 : Int32) (x3 : Int32) (σ : ed_S) : Option (Int32 × ed_S) := (if 0 ≤ (σ 44 0 0) then (if 3 ≤ x1 then (if x1 = 3 then (F_Mod_create_40  x1 x2 x3 9 σ) else (if x1 = 4 then (F_Mod_create_40  x1 x2 x3 0 σ) else (F_Mod_create_40  x1 x2 x3 7 σ))) else (F_Mod_create_40  x1 x2 x3 1 σ)) else (some ((-3), σ)))
set_option maxHeartbeats 4000000 in
set_option maxRecDepth 100000 in
theorem T_Mod_create_217 {r : Int32} {σ' : ed_S} (B : ed_B p s m args meth c prog_10_method_28_code "ExecutiveDeskModel" 7 D ca) (hr : meth.sig.returnType = (some .int)) (hA : ∀ q : Nat, s.heap.size ≤ q → A q) : ∀ (x1 : Int32) (x2 : Int32) (x3 : Int32) (x4 : Int32) (x5 : Int32) (x6 : Int32) (s0 : Int32) (s1 : Int32) (σ : ed_S), F_Mod_create_217  x1 x2 x3 x4 x5 x6 s0 s1 σ = some (r, σ') → ed_G p l e rm_Mod_create s m args below meth c D ca (md_w ad ca) A (ed_QI D ca (md_w ad ca) A below args s r σ') 7 217 [(0, .ref (ad (pMod 0))), (1, .int x1), (2, .int x2), (3, .int x3), (4, .int x4), (5, .int x5), (6, .int x6)] [.int s0, .int s1, .ref (ad (pMowner 0))] σ := by
  have hx := B.1
  have hb := B.2.1
  intro x1 x2 x3 x4 x5 x6 s0 s1 σ  hF H locs ls hP hD hS hl
  have hF : (vG s1 16 fun j1 => vL (ed_st σ 25 0 j1 s0) fun σ5 => (vG x5 16 fun j7 => vL (ed_st σ5 26 0 j7 0) fun σ11 => (vG x5 16 fun j13 => vL (ed_st σ11 27 0 j13 0) fun σ17 => (vB2 (F_Mod_use x6 x5 7 σ17) fun r21 σ19 => (some (r21, σ19)))))) = some (r, σ') := hF
  obtain ⟨j1, ej2, hj3, hn4, hF⟩ := vG_some hF
  obtain ⟨σ5, e6, hF⟩ := vL_some hF
  refine is_Mowner B hP hD hS (by decide) hn4 ej2 e6 d_Mod_create_217 (fun H locs hP hD hS => ?_)
  refine lv_aload_n hx hb d_Mod_create_218 rfl (lv_at hl 0 rfl) ?_
  refine gf_Mod_time B hP (by decide) L_Mod_89 d_Mod_create_219 ?_
  refine lv_iload hx hb d_Mod_create_222 (lv_at hl 5 rfl) ?_
  refine lv_iconst (v := 0) hx hb d_Mod_create_224 (by decide) ?_
  obtain ⟨j7, ej8, hj9, hn10, hF⟩ := vG_some hF
  obtain ⟨σ11, e12, hF⟩ := vL_some hF
  refine is_Mtime B hP hD hS (by decide) hn10 ej8 e12 d_Mod_create_225 (fun H locs hP hD hS => ?_)
  refine lv_aload_n hx hb d_Mod_create_226 rfl (lv_at hl 0 rfl) ?_
  refine gf_Mod_rules B hP (by decide) L_Mod_92 d_Mod_create_227 ?_
  refine lv_iload hx hb d_Mod_create_230 (lv_at hl 5 rfl) ?_
  refine lv_iconst (v := 0) hx hb d_Mod_create_232 (by decide) ?_
  obtain ⟨j13, ej14, hj15, hn16, hF⟩ := vG_some hF
  obtain ⟨σ17, e18, hF⟩ := vL_some hF
  refine is_Mrules B hP hD hS (by decide) hn16 ej14 e18 d_Mod_create_233 (fun H locs hP hD hS => ?_)
  refine lv_aload_n hx hb d_Mod_create_234 rfl (lv_at hl 0 rfl) ?_
  refine lv_iload hx hb d_Mod_create_235 (lv_at hl 6 rfl) ?_
  refine lv_iload hx hb d_Mod_create_237 (lv_at hl 5 rfl) ?_
  refine lv_bipush (v := 7) hx hb d_Mod_create_239 (by decide) ?_
  obtain ⟨r21, σ19, q20, hF⟩ := vB2_some hF
  refine ed_cvI (As := [.int x6, .int x5, .int 7]) (rest := []) B hP hD hS hA (C_Mod_use l D ad ca x6 x5 7 σ17 r21 σ19  q20) me_Mod_use mv_Mod_use L_Mod_239 (ed_rc_Mod B hP (by decide)) ⟨rfl, rfl⟩ ⟨Nat.le_of_ble_eq_true rfl, Nat.le_of_ble_eq_true rfl⟩ rfl rfl hl.1 (lv_room (Nat.le_of_ble_eq_true rfl)) d_Mod_create_241 (fun H locs hP hD hS => ?_)
  exact ed_rI B hr hA hP hD hS (vP hF) d_Mod_create_244
set_option maxHeartbeats 4000000 in
set_option maxRecDepth 100000 in
theorem T_Mod_create_176 {r : Int32} {σ' : ed_S} (B : ed_B p s m args meth c prog_10_method_28_code "ExecutiveDeskModel" 7 D ca) (hr : meth.sig.returnType = (some .int)) (hA : ∀ q : Nat, s.heap.size ≤ q → A q) : ∀ (x1 : Int32) (x2 : Int32) (x3 : Int32) (x4 : Int32) (x5 : Int32) (x6 : Int32) (s0 : Int32) (s1 : Int32) (σ : ed_S), F_Mod_create_176  x1 x2 x3 x4 x5 x6 s0 s1 σ = some (r, σ') → ed_G p l e rm_Mod_create s m args below meth c D ca (md_w ad ca) A (ed_QI D ca (md_w ad ca) A below args s r σ') 7 176 [(0, .ref (ad (pMod 0))), (1, .int x1), (2, .int x2), (3, .int x3), (4, .int x4), (5, .int x5), (6, .int x6)] [.int s0, .int s1, .ref (ad (pMisSet 0))] σ := by
  have hx := B.1
  have hb := B.2.1
  intro x1 x2 x3 x4 x5 x6 s0 s1 σ  hF H locs ls hP hD hS hl
  have hF : (vC (s0 = 0 ∨ s0 = 1) (vG s1 16 fun j1 => vL (ed_st σ 20 0 j1 s0) fun σ5 => (vG x5 16 fun j8 => vL (ed_st σ5 21 0 j8 0) fun σ12 => (vG x5 16 fun j14 => vL (ed_st σ12 24 0 j14 x2) fun σ18 => (if x1 = 2 then (if x2 = 1 then (F_Mod_create_217  x1 x2 x3 x4 x5 x6 (σ18 44 0 0) x5 σ18) else (F_Mod_create_217  x1 x2 x3 x4 x5 x6 (-1) x5 σ18)) else (F_Mod_create_217  x1 x2 x3 x4 x5 x6 (-1) x5 σ18)))))) = some (r, σ') := hF
  obtain ⟨z7, hF⟩ := vC_some hF
  obtain ⟨j1, ej2, hj3, hn4, hF⟩ := vG_some hF
  obtain ⟨σ5, e6, hF⟩ := vL_some hF
  refine is_MisSet B hP hD hS (by decide) hn4 ej2 z7 e6 d_Mod_create_176 (fun H locs hP hD hS => ?_)
  refine lv_aload_n hx hb d_Mod_create_177 rfl (lv_at hl 0 rfl) ?_
  refine gf_Mod_abandoned B hP (by decide) L_Mod_74 d_Mod_create_178 ?_
  refine lv_iload hx hb d_Mod_create_181 (lv_at hl 5 rfl) ?_
  refine lv_iconst (v := 0) hx hb d_Mod_create_183 (by decide) ?_
  obtain ⟨j8, ej9, hj10, hn11, hF⟩ := vG_some hF
  obtain ⟨σ12, e13, hF⟩ := vL_some hF
  refine is_Mabandoned B hP hD hS (by decide) hn11 ej9 (by decide) e13 d_Mod_create_184 (fun H locs hP hD hS => ?_)
  refine lv_aload_n hx hb d_Mod_create_185 rfl (lv_at hl 0 rfl) ?_
  refine gf_Mod_count B hP (by decide) L_Mod_83 d_Mod_create_186 ?_
  refine lv_iload hx hb d_Mod_create_189 (lv_at hl 5 rfl) ?_
  refine lv_iload_n hx hb d_Mod_create_191 rfl (lv_at hl 2 rfl) ?_
  obtain ⟨j14, ej15, hj16, hn17, hF⟩ := vG_some hF
  obtain ⟨σ18, e19, hF⟩ := vL_some hF
  refine is_Mcount B hP hD hS (by decide) hn17 ej15 e19 d_Mod_create_192 (fun H locs hP hD hS => ?_)
  refine lv_aload_n hx hb d_Mod_create_193 rfl (lv_at hl 0 rfl) ?_
  refine gf_Mod_owner B hP (by decide) L_Mod_86 d_Mod_create_194 ?_
  refine lv_iload hx hb d_Mod_create_197 (lv_at hl 5 rfl) ?_
  refine lv_iload_n hx hb d_Mod_create_199 rfl (lv_at hl 1 rfl) ?_
  refine lv_iconst (v := 2) hx hb d_Mod_create_200 (by decide) ?_
  refine lv_icmp_ne (tgt := 216) hx hb d_Mod_create_201 (by decide) (fun c20 => ?_) (fun c20 => ?_)
  · have hF := vIf c20 hF
    refine lv_iconst (v := (-1)) hx hb d_Mod_create_216 (by decide) ?_
    exact T_Mod_create_217 B hr hA  x1 x2 x3 x4 x5 x6 (-1) x5 σ18  hF _ _ _ hP hD hS (lv_sub hl [0, 1, 2, 3, 4, 5, 6] rfl)
  · have hF := vIt c20 hF
    refine lv_iload_n hx hb d_Mod_create_204 rfl (lv_at hl 2 rfl) ?_
    refine lv_iconst (v := 1) hx hb d_Mod_create_205 (by decide) ?_
    refine lv_icmp_ne (tgt := 216) hx hb d_Mod_create_206 (by decide) (fun c21 => ?_) (fun c21 => ?_)
    · have hF := vIf c21 hF
      refine lv_iconst (v := (-1)) hx hb d_Mod_create_216 (by decide) ?_
      exact T_Mod_create_217 B hr hA  x1 x2 x3 x4 x5 x6 (-1) x5 σ18  hF _ _ _ hP hD hS (lv_sub hl [0, 1, 2, 3, 4, 5, 6] rfl)
    · have hF := vIt c21 hF
      refine lv_aload_n hx hb d_Mod_create_209 rfl (lv_at hl 0 rfl) ?_
      refine gf_Mod_running B hP (by decide) L_Mod_137 d_Mod_create_210 ?_
      refine lv_goto (tgt := 217) hx hb d_Mod_create_213 (by decide) ?_
      exact T_Mod_create_217 B hr hA  x1 x2 x3 x4 x5 x6 (σ18 44 0 0) x5 σ18  hF _ _ _ hP hD hS (lv_sub hl [0, 1, 2, 3, 4, 5, 6] rfl)
set_option maxHeartbeats 4000000 in
set_option maxRecDepth 100000 in
theorem T_Mod_create_116 {r : Int32} {σ' : ed_S} (B : ed_B p s m args meth c prog_10_method_28_code "ExecutiveDeskModel" 7 D ca) (hr : meth.sig.returnType = (some .int)) (hA : ∀ q : Nat, s.heap.size ≤ q → A q) : ∀ (x1 : Int32) (x2 : Int32) (x3 : Int32) (x4 : Int32) (x5 : Int32) (x6 : Int32) (σ : ed_S), F_Mod_create_116  x1 x2 x3 x4 x5 x6 σ = some (r, σ') → ed_G p l e rm_Mod_create s m args below meth c D ca (md_w ad ca) A (ed_QI D ca (md_w ad ca) A below args s r σ') 7 116 [(0, .ref (ad (pMod 0))), (1, .int x1), (2, .int x2), (3, .int x3), (4, .int x4), (5, .int x5), (6, .int x6)] [] σ := by
  have hx := B.1
  have hb := B.2.1
  intro x1 x2 x3 x4 x5 x6 σ  hF H locs ls hP hD hS hl
  have hF : (if x6 < 0 then (some ((-2), σ)) else (if x5 = 16 then (some ((-2), σ)) else (vG x5 16 fun j3 => vL (ed_st σ 19 0 j3 1) fun σ7 => (vG x5 16 fun j9 => vL (ed_st σ7 22 0 j9 x1) fun σ13 => (vG x5 16 fun j15 => vL (ed_st σ13 23 0 j15 x3) fun σ19 => (if 2 ≤ x1 then (F_Mod_create_176  x1 x2 x3 x4 x5 x6 0 x5 σ19) else (if x2 = 1 then (F_Mod_create_176  x1 x2 x3 x4 x5 x6 1 x5 σ19) else (F_Mod_create_176  x1 x2 x3 x4 x5 x6 0 x5 σ19)))))))) = some (r, σ') := hF
  refine lv_iload hx hb d_Mod_create_116 (lv_at hl 6 rfl) ?_
  refine lv_if_lt (tgt := 128) hx hb d_Mod_create_118 (by decide) (fun c1 => ?_) (fun c1 => ?_)
  · have hF := vIt c1 hF
    refine lv_bipush (v := (-2)) hx hb d_Mod_create_128 (by decide) ?_
    exact ed_rI B hr hA hP hD hS (vP hF) d_Mod_create_130
  · have hF := vIf c1 hF
    refine lv_iload hx hb d_Mod_create_121 (lv_at hl 5 rfl) ?_
    refine lv_bipush (v := 16) hx hb d_Mod_create_123 (by decide) ?_
    refine lv_icmp_ne (tgt := 131) hx hb d_Mod_create_125 (by decide) (fun c2 => ?_) (fun c2 => ?_)
    · have hF := vIf c2 hF
      refine lv_aload_n hx hb d_Mod_create_131 rfl (lv_at hl 0 rfl) ?_
      refine gf_Mod_there B hP (by decide) L_Mod_67 d_Mod_create_132 ?_
      refine lv_iload hx hb d_Mod_create_135 (lv_at hl 5 rfl) ?_
      refine lv_iconst (v := 1) hx hb d_Mod_create_137 (by decide) ?_
      obtain ⟨j3, ej4, hj5, hn6, hF⟩ := vG_some hF
      obtain ⟨σ7, e8, hF⟩ := vL_some hF
      refine is_Mthere B hP hD hS (by decide) hn6 ej4 (by decide) e8 d_Mod_create_138 (fun H locs hP hD hS => ?_)
      refine lv_aload_n hx hb d_Mod_create_139 rfl (lv_at hl 0 rfl) ?_
      refine gf_Mod_type B hP (by decide) L_Mod_77 d_Mod_create_140 ?_
      refine lv_iload hx hb d_Mod_create_143 (lv_at hl 5 rfl) ?_
      refine lv_iload_n hx hb d_Mod_create_145 rfl (lv_at hl 1 rfl) ?_
      obtain ⟨j9, ej10, hj11, hn12, hF⟩ := vG_some hF
      obtain ⟨σ13, e14, hF⟩ := vL_some hF
      refine is_Mtype B hP hD hS (by decide) hn12 ej10 e14 d_Mod_create_146 (fun H locs hP hD hS => ?_)
      refine lv_aload_n hx hb d_Mod_create_147 rfl (lv_at hl 0 rfl) ?_
      refine gf_Mod_name B hP (by decide) L_Mod_80 d_Mod_create_148 ?_
      refine lv_iload hx hb d_Mod_create_151 (lv_at hl 5 rfl) ?_
      refine lv_iload_n hx hb d_Mod_create_153 rfl (lv_at hl 3 rfl) ?_
      obtain ⟨j15, ej16, hj17, hn18, hF⟩ := vG_some hF
      obtain ⟨σ19, e20, hF⟩ := vL_some hF
      refine is_Mname B hP hD hS (by decide) hn18 ej16 e20 d_Mod_create_154 (fun H locs hP hD hS => ?_)
      refine lv_aload_n hx hb d_Mod_create_155 rfl (lv_at hl 0 rfl) ?_
      refine gf_Mod_isSet B hP (by decide) L_Mod_71 d_Mod_create_156 ?_
      refine lv_iload hx hb d_Mod_create_159 (lv_at hl 5 rfl) ?_
      refine lv_iload_n hx hb d_Mod_create_161 rfl (lv_at hl 1 rfl) ?_
      refine lv_iconst (v := 2) hx hb d_Mod_create_162 (by decide) ?_
      refine lv_icmp_ge (tgt := 175) hx hb d_Mod_create_163 (by decide) (fun c21 => ?_) (fun c21 => ?_)
      · have hF := vIt c21 hF
        refine lv_iconst (v := 0) hx hb d_Mod_create_175 (by decide) ?_
        exact T_Mod_create_176 B hr hA  x1 x2 x3 x4 x5 x6 0 x5 σ19  hF _ _ _ hP hD hS (lv_sub hl [0, 1, 2, 3, 4, 5, 6] rfl)
      · have hF := vIf c21 hF
        refine lv_iload_n hx hb d_Mod_create_166 rfl (lv_at hl 2 rfl) ?_
        refine lv_iconst (v := 1) hx hb d_Mod_create_167 (by decide) ?_
        refine lv_icmp_ne (tgt := 175) hx hb d_Mod_create_168 (by decide) (fun c22 => ?_) (fun c22 => ?_)
        · have hF := vIf c22 hF
          refine lv_iconst (v := 0) hx hb d_Mod_create_175 (by decide) ?_
          exact T_Mod_create_176 B hr hA  x1 x2 x3 x4 x5 x6 0 x5 σ19  hF _ _ _ hP hD hS (lv_sub hl [0, 1, 2, 3, 4, 5, 6] rfl)
        · have hF := vIt c22 hF
          refine lv_iconst (v := 1) hx hb d_Mod_create_171 (by decide) ?_
          refine lv_goto (tgt := 176) hx hb d_Mod_create_172 (by decide) ?_
          exact T_Mod_create_176 B hr hA  x1 x2 x3 x4 x5 x6 1 x5 σ19  hF _ _ _ hP hD hS (lv_sub hl [0, 1, 2, 3, 4, 5, 6] rfl)
    · have hF := vIt c2 hF
      refine lv_bipush (v := (-2)) hx hb d_Mod_create_128 (by decide) ?_
      exact ed_rI B hr hA hP hD hS (vP hF) d_Mod_create_130
set_option maxHeartbeats 4000000 in
set_option maxRecDepth 100000 in
theorem T_Mod_create_93 {r : Int32} {σ' : ed_S} (B : ed_B p s m args meth c prog_10_method_28_code "ExecutiveDeskModel" 7 D ca) (hr : meth.sig.returnType = (some .int)) (hA : ∀ q : Nat, s.heap.size ≤ q → A q) : ∀ (n : Nat) (x1 : Int32) (x2 : Int32) (x3 : Int32) (x4 : Int32) (x5 : Int32) (x6 : Int32) (σ : ed_S), F_Mod_create_93  n x1 x2 x3 x4 x5 x6 σ = some (r, σ') → ed_G p l e rm_Mod_create s m args below meth c D ca (md_w ad ca) A (ed_QI D ca (md_w ad ca) A below args s r σ') 7 93 [(0, .ref (ad (pMod 0))), (1, .int x1), (2, .int x2), (3, .int x3), (4, .int x4), (5, .int x5), (6, .int x6)] [] σ := by
  have hx := B.1
  have hb := B.2.1
  intro n
  induction n with
  | zero => intro x1 x2 x3 x4 x5 x6 σ  hF; exact absurd hF (by intro h; cases h)
  | succ n kk93 =>
    intro x1 x2 x3 x4 x5 x6 σ  hF H locs ls hP hD hS hl
    have hF : (if 16 ≤ x5 then (F_Mod_create_116  x1 x2 x3 x4 x5 x6 σ) else (vG x5 16 fun j2 => (if (σ 19 0 j2) = 0 then (F_Mod_create_116  x1 x2 x3 x4 x5 x6 σ) else ((F_Mod_create_93  n) x1 x2 x3 x4 (x5 + 1) x6 σ)))) = some (r, σ') := hF
    refine lv_iload hx hb d_Mod_create_93 (lv_at hl 5 rfl) ?_
    refine lv_bipush (v := 16) hx hb d_Mod_create_95 (by decide) ?_
    refine lv_icmp_ge (tgt := 116) hx hb d_Mod_create_97 (by decide) (fun c1 => ?_) (fun c1 => ?_)
    · have hF := vIt c1 hF
      exact T_Mod_create_116 B hr hA  x1 x2 x3 x4 x5 x6 σ  hF _ _ _ hP hD hS (lv_sub hl [0, 1, 2, 3, 4, 5, 6] rfl)
    · have hF := vIf c1 hF
      refine lv_aload_n hx hb d_Mod_create_100 rfl (lv_at hl 0 rfl) ?_
      refine gf_Mod_there B hP (by decide) L_Mod_67 d_Mod_create_101 ?_
      refine lv_iload hx hb d_Mod_create_104 (lv_at hl 5 rfl) ?_
      obtain ⟨j2, ej3, hj4, hn5, hF⟩ := vG_some hF
      refine il_Mthere B hP (by decide) hn5 ej3 d_Mod_create_106 ?_
      refine lv_if_eq (tgt := 116) hx hb d_Mod_create_107 (by decide) (fun c6 => ?_) (fun c6 => ?_)
      · have hF := vIt c6 hF
        exact T_Mod_create_116 B hr hA  x1 x2 x3 x4 x5 x6 σ  hF _ _ _ hP hD hS (lv_sub hl [0, 1, 2, 3, 4, 5, 6] rfl)
      · have hF := vIf c6 hF
        refine lv_iinc (v := (x5 + 1)) (lv' := [(5, .int (x5 + 1)), (0, .ref (ad (pMod 0))), (1, .int x1), (2, .int x2), (3, .int x3), (4, .int x4), (6, .int x6)]) hx hb d_Mod_create_110 hl (k := 5) rfl rfl (by decide) rfl (fun ls hl => ?_)
        refine lv_goto (tgt := 93) hx hb d_Mod_create_113 (by decide) ?_
        exact kk93 x1 x2 x3 x4 (x5 + 1) x6 σ  hF _ _ _ hP hD hS (lv_sub hl [1, 2, 3, 4, 5, 0, 6] rfl)
set_option maxHeartbeats 4000000 in
set_option maxRecDepth 100000 in
theorem T_Mod_create_40 {r : Int32} {σ' : ed_S} (B : ed_B p s m args meth c prog_10_method_28_code "ExecutiveDeskModel" 7 D ca) (hr : meth.sig.returnType = (some .int)) (hA : ∀ q : Nat, s.heap.size ≤ q → A q) : ∀ (x1 : Int32) (x2 : Int32) (x3 : Int32) (s0 : Int32) (σ : ed_S), F_Mod_create_40  x1 x2 x3 s0 σ = some (r, σ') → ed_G p l e rm_Mod_create s m args below meth c D ca (md_w ad ca) A (ed_QI D ca (md_w ad ca) A below args s r σ') 7 40 [(0, .ref (ad (pMod 0))), (1, .int x1), (2, .int x2), (3, .int x3)] [.int s0] σ := by
  have hx := B.1
  have hb := B.2.1
  intro x1 x2 x3 s0 σ  hF H locs ls hP hD hS hl
  have hF : (vB2 (F_Mod_is x1 0 5 σ) fun r3 σ1 => (if r3 = 0 then (some ((-1), σ1)) else (vB2 (F_Mod_is x2 0 s0 σ1) fun r7 σ5 => (if r7 = 0 then (some ((-1), σ5)) else (vB2 (F_Mod_is x3 (-1) 15 σ5) fun r11 σ9 => (if r11 = 0 then (some ((-1), σ9)) else (vB2 (F_Mod_named x3 σ9) fun r15 σ13 => (if r15 < 0 then (vB2 (F_Mod_freeHandle  σ13) fun r19 σ17 => (F_Mod_create_93  ed_fu x1 x2 x3 s0 0 r19 σ17)) else (some ((-6), σ13)))))))))) = some (r, σ') := hF
  refine lv_istore (lv' := [(4, .int s0), (0, .ref (ad (pMod 0))), (1, .int x1), (2, .int x2), (3, .int x3)]) hx hb d_Mod_create_40 hl (by decide) rfl (fun ls hl => ?_)
  refine lv_iload_n hx hb d_Mod_create_42 rfl (lv_at hl 2 rfl) ?_
  refine lv_iconst (v := 0) hx hb d_Mod_create_43 (by decide) ?_
  refine lv_iconst (v := 5) hx hb d_Mod_create_44 (by decide) ?_
  obtain ⟨r3, σ1, q2, hF⟩ := vB2_some hF
  refine ed_csI (As := [.int x1, .int 0, .int 5]) (rest := []) B hP hD hS hA (C_Mod_is l D ad ca x1 0 5 σ r3 σ1  q2) me_Mod_is st_Mod_is L_Mod_157 ⟨rfl, rfl⟩ ⟨Nat.le_of_ble_eq_true rfl, Nat.le_of_ble_eq_true rfl⟩ rfl rfl hl.1 (lv_room (Nat.le_of_ble_eq_true rfl)) d_Mod_create_45 (fun H locs hP hD hS => ?_)
  refine lv_if_eq (tgt := 71) hx hb d_Mod_create_48 (by decide) (fun c4 => ?_) (fun c4 => ?_)
  · have hF := vIt c4 hF
    refine lv_iconst (v := (-1)) hx hb d_Mod_create_71 (by decide) ?_
    exact ed_rI B hr hA hP hD hS (vP hF) d_Mod_create_72
  · have hF := vIf c4 hF
    refine lv_iload_n hx hb d_Mod_create_51 rfl (lv_at hl 3 rfl) ?_
    refine lv_iconst (v := 0) hx hb d_Mod_create_52 (by decide) ?_
    refine lv_iload hx hb d_Mod_create_53 (lv_at hl 0 rfl) ?_
    obtain ⟨r7, σ5, q6, hF⟩ := vB2_some hF
    refine ed_csI (As := [.int x2, .int 0, .int s0]) (rest := []) B hP hD hS hA (C_Mod_is l D ad ca x2 0 s0 σ1 r7 σ5  q6) me_Mod_is st_Mod_is L_Mod_157 ⟨rfl, rfl⟩ ⟨Nat.le_of_ble_eq_true rfl, Nat.le_of_ble_eq_true rfl⟩ rfl rfl hl.1 (lv_room (Nat.le_of_ble_eq_true rfl)) d_Mod_create_55 (fun H locs hP hD hS => ?_)
    refine lv_if_eq (tgt := 71) hx hb d_Mod_create_58 (by decide) (fun c8 => ?_) (fun c8 => ?_)
    · have hF := vIt c8 hF
      refine lv_iconst (v := (-1)) hx hb d_Mod_create_71 (by decide) ?_
      exact ed_rI B hr hA hP hD hS (vP hF) d_Mod_create_72
    · have hF := vIf c8 hF
      refine lv_iload_n hx hb d_Mod_create_61 rfl (lv_at hl 4 rfl) ?_
      refine lv_iconst (v := (-1)) hx hb d_Mod_create_62 (by decide) ?_
      refine lv_bipush (v := 15) hx hb d_Mod_create_63 (by decide) ?_
      obtain ⟨r11, σ9, q10, hF⟩ := vB2_some hF
      refine ed_csI (As := [.int x3, .int (-1), .int 15]) (rest := []) B hP hD hS hA (C_Mod_is l D ad ca x3 (-1) 15 σ5 r11 σ9  q10) me_Mod_is st_Mod_is L_Mod_157 ⟨rfl, rfl⟩ ⟨Nat.le_of_ble_eq_true rfl, Nat.le_of_ble_eq_true rfl⟩ rfl rfl hl.1 (lv_room (Nat.le_of_ble_eq_true rfl)) d_Mod_create_65 (fun H locs hP hD hS => ?_)
      refine lv_if_ne (tgt := 73) hx hb d_Mod_create_68 (by decide) (fun c12 => ?_) (fun c12 => ?_)
      · have hF := vIf c12 hF
        refine lv_aload_n hx hb d_Mod_create_73 rfl (lv_at hl 1 rfl) ?_
        refine lv_iload_n hx hb d_Mod_create_74 rfl (lv_at hl 4 rfl) ?_
        obtain ⟨r15, σ13, q14, hF⟩ := vB2_some hF
        refine ed_cvI (As := [.int x3]) (rest := []) B hP hD hS hA (C_Mod_named l D ad ca x3 σ9 r15 σ13  q14) me_Mod_named mv_Mod_named L_Mod_233 (ed_rc_Mod B hP (by decide)) ⟨rfl, rfl⟩ ⟨Nat.le_of_ble_eq_true rfl, Nat.le_of_ble_eq_true rfl⟩ rfl rfl hl.1 (lv_room (Nat.le_of_ble_eq_true rfl)) d_Mod_create_75 (fun H locs hP hD hS => ?_)
        refine lv_if_lt (tgt := 84) hx hb d_Mod_create_78 (by decide) (fun c16 => ?_) (fun c16 => ?_)
        · have hF := vIt c16 hF
          refine lv_iconst (v := 0) hx hb d_Mod_create_84 (by decide) ?_
          refine lv_istore (lv' := [(5, .int 0), (4, .int s0), (0, .ref (ad (pMod 0))), (1, .int x1), (2, .int x2), (3, .int x3)]) hx hb d_Mod_create_85 hl (by decide) rfl (fun ls hl => ?_)
          refine lv_aload_n hx hb d_Mod_create_87 rfl (lv_at hl 2 rfl) ?_
          obtain ⟨r19, σ17, q18, hF⟩ := vB2_some hF
          refine ed_cvI (As := []) (rest := []) B hP hD hS hA (C_Mod_freeHandle l D ad ca  σ13 r19 σ17  q18) me_Mod_freeHandle mv_Mod_freeHandle L_Mod_236 (ed_rc_Mod B hP (by decide)) ⟨rfl, rfl⟩ ⟨Nat.le_of_ble_eq_true rfl, Nat.le_of_ble_eq_true rfl⟩ rfl rfl hl.1 (lv_room (Nat.le_of_ble_eq_true rfl)) d_Mod_create_88 (fun H locs hP hD hS => ?_)
          refine lv_istore (lv' := [(6, .int r19), (5, .int 0), (4, .int s0), (0, .ref (ad (pMod 0))), (1, .int x1), (2, .int x2), (3, .int x3)]) hx hb d_Mod_create_91 hl (by decide) rfl (fun ls hl => ?_)
          exact T_Mod_create_93 B hr hA  ed_fu x1 x2 x3 s0 0 r19 σ17  hF _ _ _ hP hD hS (lv_sub hl [3, 4, 5, 6, 2, 1, 0] rfl)
        · have hF := vIf c16 hF
          refine lv_bipush (v := (-6)) hx hb d_Mod_create_81 (by decide) ?_
          exact ed_rI B hr hA hP hD hS (vP hF) d_Mod_create_83
      · have hF := vIt c12 hF
        refine lv_iconst (v := (-1)) hx hb d_Mod_create_71 (by decide) ?_
        exact ed_rI B hr hA hP hD hS (vP hF) d_Mod_create_72
set_option maxHeartbeats 4000000 in
set_option maxRecDepth 100000 in
theorem T_Mod_create {r : Int32} {σ' : ed_S} (B : ed_B p s m args meth c prog_10_method_28_code "ExecutiveDeskModel" 7 D ca) (hr : meth.sig.returnType = (some .int)) (hA : ∀ q : Nat, s.heap.size ≤ q → A q) : ∀ (x1 : Int32) (x2 : Int32) (x3 : Int32) (σ : ed_S), F_Mod_create  x1 x2 x3 σ = some (r, σ') → ed_G p l e rm_Mod_create s m args below meth c D ca (md_w ad ca) A (ed_QI D ca (md_w ad ca) A below args s r σ') 7 0 [(0, .ref (ad (pMod 0))), (1, .int x1), (2, .int x2), (3, .int x3)] [] σ := by
  have hx := B.1
  have hb := B.2.1
  intro x1 x2 x3 σ  hF H locs ls hP hD hS hl
  have hF : (if 0 ≤ (σ 44 0 0) then (if 3 ≤ x1 then (if x1 = 3 then (F_Mod_create_40  x1 x2 x3 9 σ) else (if x1 = 4 then (F_Mod_create_40  x1 x2 x3 0 σ) else (F_Mod_create_40  x1 x2 x3 7 σ))) else (F_Mod_create_40  x1 x2 x3 1 σ)) else (some ((-3), σ))) = some (r, σ') := hF
  refine lv_aload_n hx hb d_Mod_create_0 rfl (lv_at hl 0 rfl) ?_
  refine gf_Mod_running B hP (by decide) L_Mod_137 d_Mod_create_1 ?_
  refine lv_if_ge (tgt := 10) hx hb d_Mod_create_4 (by decide) (fun c1 => ?_) (fun c1 => ?_)
  · have hF := vIt c1 hF
    refine lv_iload_n hx hb d_Mod_create_10 rfl (lv_at hl 1 rfl) ?_
    refine lv_iconst (v := 3) hx hb d_Mod_create_11 (by decide) ?_
    refine lv_icmp_ge (tgt := 19) hx hb d_Mod_create_12 (by decide) (fun c2 => ?_) (fun c2 => ?_)
    · have hF := vIt c2 hF
      refine lv_iload_n hx hb d_Mod_create_19 rfl (lv_at hl 1 rfl) ?_
      refine lv_iconst (v := 3) hx hb d_Mod_create_20 (by decide) ?_
      refine lv_icmp_ne (tgt := 29) hx hb d_Mod_create_21 (by decide) (fun c3 => ?_) (fun c3 => ?_)
      · have hF := vIf c3 hF
        refine lv_iload_n hx hb d_Mod_create_29 rfl (lv_at hl 1 rfl) ?_
        refine lv_iconst (v := 4) hx hb d_Mod_create_30 (by decide) ?_
        refine lv_icmp_ne (tgt := 38) hx hb d_Mod_create_31 (by decide) (fun c4 => ?_) (fun c4 => ?_)
        · have hF := vIf c4 hF
          refine lv_bipush (v := 7) hx hb d_Mod_create_38 (by decide) ?_
          exact T_Mod_create_40 B hr hA  x1 x2 x3 7 σ  hF _ _ _ hP hD hS (lv_sub hl [0, 1, 2, 3] rfl)
        · have hF := vIt c4 hF
          refine lv_iconst (v := 0) hx hb d_Mod_create_34 (by decide) ?_
          refine lv_goto (tgt := 40) hx hb d_Mod_create_35 (by decide) ?_
          exact T_Mod_create_40 B hr hA  x1 x2 x3 0 σ  hF _ _ _ hP hD hS (lv_sub hl [0, 1, 2, 3] rfl)
      · have hF := vIt c3 hF
        refine lv_bipush (v := 9) hx hb d_Mod_create_24 (by decide) ?_
        refine lv_goto (tgt := 40) hx hb d_Mod_create_26 (by decide) ?_
        exact T_Mod_create_40 B hr hA  x1 x2 x3 9 σ  hF _ _ _ hP hD hS (lv_sub hl [0, 1, 2, 3] rfl)
    · have hF := vIf c2 hF
      refine lv_iconst (v := 1) hx hb d_Mod_create_15 (by decide) ?_
      refine lv_goto (tgt := 40) hx hb d_Mod_create_16 (by decide) ?_
      exact T_Mod_create_40 B hr hA  x1 x2 x3 1 σ  hF _ _ _ hP hD hS (lv_sub hl [0, 1, 2, 3] rfl)
  · have hF := vIf c1 hF
    refine lv_bipush (v := (-3)) hx hb d_Mod_create_7 (by decide) ?_
    exact ed_rI B hr hA hP hD hS (vP hF) d_Mod_create_9
set_option maxHeartbeats 4000000 in
set_option maxRecDepth 100000 in
theorem C_Mod_create (l : Launch) (D : va_G) (ad : Nat → Nat) (ca : Nat → ClassId) (x1 : Int32) (x2 : Int32) (x3 : Int32) (σ : ed_S) (r : Int32) (σ' : ed_S) (hF : F_Mod_create x1 x2 x3 σ = some (r, σ')) : ed_MI l y_Mod_create ws_Mod_create rm_Mod_create D ca (md_w ad ca) [.ref (ad (pMod 0)), .int x1, .int x2, .int x3] σ r σ' := by
  refine ed_metI (cc := prog_10_method_28_code) (own := "ExecutiveDeskModel") (nL := 7) (ret := (some .int)) (by decide) rfl rfl (Nat.le_of_ble_eq_true rfl) ?_
  intro p e s m args below meth c A B hr hA
  exact T_Mod_create B hr hA x1 x2 x3 σ  hF
abbrev ws_Mod_opn : List Cond := Cond.code y_Mod_opn prog_10_method_30_code 7 (some .int) :: ed_tb
abbrev rm_Mod_opn : Room := { frames := 1, cells := 0, slots := 0, locals := 23 }
def F_Mod_opn_162 (x1 : Int32) (x2 : Int32) (x3 : Int32) (x4 : Int32) (x5 : Int32) (σ : ed_S) : Option (Int32 × ed_S) := (vG x3 16 fun j1 => (if (σ 27 0 j1) ≤ 0 then (vB2 (F_Mod_freeHandle  σ) fun r8 σ6 => (if 0 ≤ r8 then (vB2 (F_Mod_use r8 x3 x2 σ6) fun r12 σ10 => (some (r12, σ10))) else (some ((-2), σ6)))) else (if x4 ≤ 0 then (vB2 (F_Mod_freeHandle  σ) fun r16 σ14 => (if 0 ≤ r16 then (vB2 (F_Mod_use r16 x3 x2 σ14) fun r20 σ18 => (some (r20, σ18))) else (some ((-2), σ14)))) else (some ((-5), σ)))))
def F_Mod_opn_131 (k51 : Int32 → Int32 → Int32 → Int32 → Int32 → ed_S → Option (Int32 × ed_S)) (x1 : Int32) (x2 : Int32) (x3 : Int32) (x4 : Int32) (x5 : Int32) (x6 : Int32) (σ : ed_S) : Option (Int32 × ed_S) := (vG x6 64 fun j1 => (if (σ 28 0 j1) = 1 then (vG x6 64 fun j6 => (k51 x1 x2 x3 (x4 &&& ((σ 30 0 j6) ^^^ (-1))) (x5 + 1) σ)) else (k51 x1 x2 x3 x4 (x5 + 1) σ)))
def F_Mod_opn_51 : Nat → Int32 → Int32 → Int32 → Int32 → Int32 → ed_S → Option (Int32 × ed_S)
  | 0, _, _, _, _, _, _ => none
  | n + 1, x1, x2, x3, x4, x5, σ => (vG x3 16 fun j1 => (if (σ 27 0 j1) ≤ x5 then (F_Mod_opn_162  x1 x2 x3 x4 x5 σ) else (if x4 ≤ 0 then (F_Mod_opn_162  x1 x2 x3 x4 x5 σ) else (vG (σ 44 0 0) 8 fun j7 => (vG (σ 5 0 j7) 4 fun j11 => (vG ((4 * x3) + x5) 64 fun j15 => (if (((σ 0 0 j11) >>> ((σ 29 0 j15) &&& 31)) &&& 1) = 0 then ((F_Mod_opn_51  n) x1 x2 x3 x4 (x5 + 1) σ) else (vG ((4 * x3) + x5) 64 fun j20 => (if (σ 28 0 j20) = 0 then (vG ((4 * x3) + x5) 64 fun j25 => (if ((σ 30 0 j25) &&& x4) = 0 then (F_Mod_opn_131 (F_Mod_opn_51  n) x1 x2 x3 x4 x5 ((4 * x3) + x5) σ) else (some ((-5), σ)))) else (F_Mod_opn_131 (F_Mod_opn_51  n) x1 x2 x3 x4 x5 ((4 * x3) + x5) σ))))))))))
def F_Mod_opn (x1 : Int32) (x2 : Int32) (σ : ed_S) : Option (Int32 × ed_S) := (if 0 ≤ (σ 44 0 0) then (vB2 (F_Mod_is x1 0 15 σ) fun r4 σ2 => (if r4 = 0 then (some ((-1), σ2)) else (vB2 (F_Mod_is x2 1 7 σ2) fun r8 σ6 => (if r8 = 0 then (some ((-1), σ6)) else (vB2 (F_Mod_named x1 σ6) fun r12 σ10 => (if 0 ≤ r12 then (F_Mod_opn_51  ed_fu x1 x2 r12 x2 0 σ10) else (some ((-7), σ10)))))))) else (some ((-3), σ)))
set_option maxHeartbeats 4000000 in
set_option maxRecDepth 100000 in
theorem T_Mod_opn_162 {r : Int32} {σ' : ed_S} (B : ed_B p s m args meth c prog_10_method_30_code "ExecutiveDeskModel" 7 D ca) (hr : meth.sig.returnType = (some .int)) (hA : ∀ q : Nat, s.heap.size ≤ q → A q) : ∀ (x1 : Int32) (x2 : Int32) (x3 : Int32) (x4 : Int32) (x5 : Int32) (σ : ed_S), F_Mod_opn_162  x1 x2 x3 x4 x5 σ = some (r, σ') → ed_G p l e rm_Mod_opn s m args below meth c D ca (md_w ad ca) A (ed_QI D ca (md_w ad ca) A below args s r σ') 7 162 [(0, .ref (ad (pMod 0))), (1, .int x1), (2, .int x2), (3, .int x3), (4, .int x4), (5, .int x5)] [] σ := by
  have hx := B.1
  have hb := B.2.1
  intro x1 x2 x3 x4 x5 σ  hF H locs ls hP hD hS hl
  have hF : (vG x3 16 fun j1 => (if (σ 27 0 j1) ≤ 0 then (vB2 (F_Mod_freeHandle  σ) fun r8 σ6 => (if 0 ≤ r8 then (vB2 (F_Mod_use r8 x3 x2 σ6) fun r12 σ10 => (some (r12, σ10))) else (some ((-2), σ6)))) else (if x4 ≤ 0 then (vB2 (F_Mod_freeHandle  σ) fun r16 σ14 => (if 0 ≤ r16 then (vB2 (F_Mod_use r16 x3 x2 σ14) fun r20 σ18 => (some (r20, σ18))) else (some ((-2), σ14)))) else (some ((-5), σ))))) = some (r, σ') := hF
  refine lv_aload_n hx hb d_Mod_opn_162 rfl (lv_at hl 0 rfl) ?_
  refine gf_Mod_rules B hP (by decide) L_Mod_92 d_Mod_opn_163 ?_
  refine lv_iload_n hx hb d_Mod_opn_166 rfl (lv_at hl 3 rfl) ?_
  obtain ⟨j1, ej2, hj3, hn4, hF⟩ := vG_some hF
  refine il_Mrules B hP (by decide) hn4 ej2 d_Mod_opn_167 ?_
  refine lv_if_le (tgt := 179) hx hb d_Mod_opn_168 (by decide) (fun c5 => ?_) (fun c5 => ?_)
  · have hF := vIt c5 hF
    refine lv_aload_n hx hb d_Mod_opn_179 rfl (lv_at hl 0 rfl) ?_
    obtain ⟨r8, σ6, q7, hF⟩ := vB2_some hF
    refine ed_cvI (As := []) (rest := []) B hP hD hS hA (C_Mod_freeHandle l D ad ca  σ r8 σ6  q7) me_Mod_freeHandle mv_Mod_freeHandle L_Mod_236 (ed_rc_Mod B hP (by decide)) ⟨rfl, rfl⟩ ⟨Nat.le_of_ble_eq_true rfl, Nat.le_of_ble_eq_true rfl⟩ rfl rfl hl.1 (lv_room (Nat.le_of_ble_eq_true rfl)) d_Mod_opn_180 (fun H locs hP hD hS => ?_)
    refine lv_istore (lv' := [(5, .int r8), (0, .ref (ad (pMod 0))), (1, .int x1), (2, .int x2), (3, .int x3), (4, .int x4)]) hx hb d_Mod_opn_183 hl (by decide) rfl (fun ls hl => ?_)
    refine lv_iload hx hb d_Mod_opn_185 (lv_at hl 0 rfl) ?_
    refine lv_if_ge (tgt := 195) hx hb d_Mod_opn_187 (by decide) (fun c9 => ?_) (fun c9 => ?_)
    · have hF := vIt c9 hF
      refine lv_aload_n hx hb d_Mod_opn_195 rfl (lv_at hl 1 rfl) ?_
      refine lv_iload hx hb d_Mod_opn_196 (lv_at hl 0 rfl) ?_
      refine lv_iload_n hx hb d_Mod_opn_198 rfl (lv_at hl 4 rfl) ?_
      refine lv_iload_n hx hb d_Mod_opn_199 rfl (lv_at hl 3 rfl) ?_
      obtain ⟨r12, σ10, q11, hF⟩ := vB2_some hF
      refine ed_cvI (As := [.int r8, .int x3, .int x2]) (rest := []) B hP hD hS hA (C_Mod_use l D ad ca r8 x3 x2 σ6 r12 σ10  q11) me_Mod_use mv_Mod_use L_Mod_239 (ed_rc_Mod B hP (by decide)) ⟨rfl, rfl⟩ ⟨Nat.le_of_ble_eq_true rfl, Nat.le_of_ble_eq_true rfl⟩ rfl rfl hl.1 (lv_room (Nat.le_of_ble_eq_true rfl)) d_Mod_opn_200 (fun H locs hP hD hS => ?_)
      exact ed_rI B hr hA hP hD hS (vP hF) d_Mod_opn_203
    · have hF := vIf c9 hF
      refine lv_bipush (v := (-2)) hx hb d_Mod_opn_190 (by decide) ?_
      refine lv_goto (tgt := 203) hx hb d_Mod_opn_192 (by decide) ?_
      exact ed_rI B hr hA hP hD hS (vP hF) d_Mod_opn_203
  · have hF := vIf c5 hF
    refine lv_iload hx hb d_Mod_opn_171 (lv_at hl 4 rfl) ?_
    refine lv_if_le (tgt := 179) hx hb d_Mod_opn_173 (by decide) (fun c13 => ?_) (fun c13 => ?_)
    · have hF := vIt c13 hF
      refine lv_aload_n hx hb d_Mod_opn_179 rfl (lv_at hl 0 rfl) ?_
      obtain ⟨r16, σ14, q15, hF⟩ := vB2_some hF
      refine ed_cvI (As := []) (rest := []) B hP hD hS hA (C_Mod_freeHandle l D ad ca  σ r16 σ14  q15) me_Mod_freeHandle mv_Mod_freeHandle L_Mod_236 (ed_rc_Mod B hP (by decide)) ⟨rfl, rfl⟩ ⟨Nat.le_of_ble_eq_true rfl, Nat.le_of_ble_eq_true rfl⟩ rfl rfl hl.1 (lv_room (Nat.le_of_ble_eq_true rfl)) d_Mod_opn_180 (fun H locs hP hD hS => ?_)
      refine lv_istore (lv' := [(5, .int r16), (0, .ref (ad (pMod 0))), (1, .int x1), (2, .int x2), (3, .int x3), (4, .int x4)]) hx hb d_Mod_opn_183 hl (by decide) rfl (fun ls hl => ?_)
      refine lv_iload hx hb d_Mod_opn_185 (lv_at hl 0 rfl) ?_
      refine lv_if_ge (tgt := 195) hx hb d_Mod_opn_187 (by decide) (fun c17 => ?_) (fun c17 => ?_)
      · have hF := vIt c17 hF
        refine lv_aload_n hx hb d_Mod_opn_195 rfl (lv_at hl 1 rfl) ?_
        refine lv_iload hx hb d_Mod_opn_196 (lv_at hl 0 rfl) ?_
        refine lv_iload_n hx hb d_Mod_opn_198 rfl (lv_at hl 4 rfl) ?_
        refine lv_iload_n hx hb d_Mod_opn_199 rfl (lv_at hl 3 rfl) ?_
        obtain ⟨r20, σ18, q19, hF⟩ := vB2_some hF
        refine ed_cvI (As := [.int r16, .int x3, .int x2]) (rest := []) B hP hD hS hA (C_Mod_use l D ad ca r16 x3 x2 σ14 r20 σ18  q19) me_Mod_use mv_Mod_use L_Mod_239 (ed_rc_Mod B hP (by decide)) ⟨rfl, rfl⟩ ⟨Nat.le_of_ble_eq_true rfl, Nat.le_of_ble_eq_true rfl⟩ rfl rfl hl.1 (lv_room (Nat.le_of_ble_eq_true rfl)) d_Mod_opn_200 (fun H locs hP hD hS => ?_)
        exact ed_rI B hr hA hP hD hS (vP hF) d_Mod_opn_203
      · have hF := vIf c17 hF
        refine lv_bipush (v := (-2)) hx hb d_Mod_opn_190 (by decide) ?_
        refine lv_goto (tgt := 203) hx hb d_Mod_opn_192 (by decide) ?_
        exact ed_rI B hr hA hP hD hS (vP hF) d_Mod_opn_203
    · have hF := vIf c13 hF
      refine lv_bipush (v := (-5)) hx hb d_Mod_opn_176 (by decide) ?_
      exact ed_rI B hr hA hP hD hS (vP hF) d_Mod_opn_178
set_option maxHeartbeats 4000000 in
set_option maxRecDepth 100000 in
theorem T_Mod_opn_131 {r : Int32} {σ' : ed_S} {k51 : Int32 → Int32 → Int32 → Int32 → Int32 → ed_S → Option (Int32 × ed_S)} (B : ed_B p s m args meth c prog_10_method_30_code "ExecutiveDeskModel" 7 D ca) (hr : meth.sig.returnType = (some .int)) (hA : ∀ q : Nat, s.heap.size ≤ q → A q) (kk51 : ∀ (x1 : Int32) (x2 : Int32) (x3 : Int32) (x4 : Int32) (x5 : Int32) (σ : ed_S), k51 x1 x2 x3 x4 x5 σ = some (r, σ') → ed_G p l e rm_Mod_opn s m args below meth c D ca (md_w ad ca) A (ed_QI D ca (md_w ad ca) A below args s r σ') 7 51 [(0, .ref (ad (pMod 0))), (1, .int x1), (2, .int x2), (3, .int x3), (4, .int x4), (5, .int x5)] [] σ) : ∀ (x1 : Int32) (x2 : Int32) (x3 : Int32) (x4 : Int32) (x5 : Int32) (x6 : Int32) (σ : ed_S), F_Mod_opn_131 k51 x1 x2 x3 x4 x5 x6 σ = some (r, σ') → ed_G p l e rm_Mod_opn s m args below meth c D ca (md_w ad ca) A (ed_QI D ca (md_w ad ca) A below args s r σ') 7 131 [(0, .ref (ad (pMod 0))), (1, .int x1), (2, .int x2), (3, .int x3), (4, .int x4), (5, .int x5), (6, .int x6)] [] σ := by
  have hx := B.1
  have hb := B.2.1
  intro x1 x2 x3 x4 x5 x6 σ  hF H locs ls hP hD hS hl
  have hF : (vG x6 64 fun j1 => (if (σ 28 0 j1) = 1 then (vG x6 64 fun j6 => (k51 x1 x2 x3 (x4 &&& ((σ 30 0 j6) ^^^ (-1))) (x5 + 1) σ)) else (k51 x1 x2 x3 x4 (x5 + 1) σ))) = some (r, σ') := hF
  refine lv_aload_n hx hb d_Mod_opn_131 rfl (lv_at hl 0 rfl) ?_
  refine gf_Mod_ruleKind B hP (by decide) L_Mod_95 d_Mod_opn_132 ?_
  refine lv_iload hx hb d_Mod_opn_135 (lv_at hl 6 rfl) ?_
  obtain ⟨j1, ej2, hj3, hn4, hF⟩ := vG_some hF
  refine il_MruleKind B hP (by decide) hn4 ej2 d_Mod_opn_137 ?_
  refine lv_iconst (v := 1) hx hb d_Mod_opn_138 (by decide) ?_
  refine lv_icmp_ne (tgt := 156) hx hb d_Mod_opn_139 (by decide) (fun c5 => ?_) (fun c5 => ?_)
  · have hF := vIf c5 hF
    refine lv_iinc (v := (x5 + 1)) (lv' := [(5, .int (x5 + 1)), (0, .ref (ad (pMod 0))), (1, .int x1), (2, .int x2), (3, .int x3), (4, .int x4), (6, .int x6)]) hx hb d_Mod_opn_156 hl (k := 5) rfl rfl (by decide) rfl (fun ls hl => ?_)
    refine lv_goto (tgt := 51) hx hb d_Mod_opn_159 (by decide) ?_
    exact kk51 x1 x2 x3 x4 (x5 + 1) σ  hF _ _ _ hP hD hS (lv_sub hl [1, 2, 3, 4, 5, 0] rfl)
  · have hF := vIt c5 hF
    refine lv_iload hx hb d_Mod_opn_142 (lv_at hl 4 rfl) ?_
    refine lv_aload_n hx hb d_Mod_opn_144 rfl (lv_at hl 0 rfl) ?_
    refine gf_Mod_ruleRights B hP (by decide) L_Mod_101 d_Mod_opn_145 ?_
    refine lv_iload hx hb d_Mod_opn_148 (lv_at hl 6 rfl) ?_
    obtain ⟨j6, ej7, hj8, hn9, hF⟩ := vG_some hF
    refine il_MruleRights B hP (by decide) hn9 ej7 d_Mod_opn_150 ?_
    refine lv_iconst (v := (-1)) hx hb d_Mod_opn_151 (by decide) ?_
    refine lv_ixor hx hb d_Mod_opn_152 ?_
    refine lv_iand hx hb d_Mod_opn_153 ?_
    refine lv_istore (lv' := [(4, .int (x4 &&& ((σ 30 0 j6) ^^^ (-1)))), (0, .ref (ad (pMod 0))), (1, .int x1), (2, .int x2), (3, .int x3), (5, .int x5), (6, .int x6)]) hx hb d_Mod_opn_154 hl (by decide) rfl (fun ls hl => ?_)
    refine lv_iinc (v := (x5 + 1)) (lv' := [(5, .int (x5 + 1)), (4, .int (x4 &&& ((σ 30 0 j6) ^^^ (-1)))), (0, .ref (ad (pMod 0))), (1, .int x1), (2, .int x2), (3, .int x3), (6, .int x6)]) hx hb d_Mod_opn_156 hl (k := 5) rfl rfl (by decide) rfl (fun ls hl => ?_)
    refine lv_goto (tgt := 51) hx hb d_Mod_opn_159 (by decide) ?_
    exact kk51 x1 x2 x3 (x4 &&& ((σ 30 0 j6) ^^^ (-1))) (x5 + 1) σ  hF _ _ _ hP hD hS (lv_sub hl [2, 3, 4, 5, 1, 0] rfl)
set_option maxHeartbeats 4000000 in
set_option maxRecDepth 100000 in
theorem T_Mod_opn_51 {r : Int32} {σ' : ed_S} (B : ed_B p s m args meth c prog_10_method_30_code "ExecutiveDeskModel" 7 D ca) (hr : meth.sig.returnType = (some .int)) (hA : ∀ q : Nat, s.heap.size ≤ q → A q) : ∀ (n : Nat) (x1 : Int32) (x2 : Int32) (x3 : Int32) (x4 : Int32) (x5 : Int32) (σ : ed_S), F_Mod_opn_51  n x1 x2 x3 x4 x5 σ = some (r, σ') → ed_G p l e rm_Mod_opn s m args below meth c D ca (md_w ad ca) A (ed_QI D ca (md_w ad ca) A below args s r σ') 7 51 [(0, .ref (ad (pMod 0))), (1, .int x1), (2, .int x2), (3, .int x3), (4, .int x4), (5, .int x5)] [] σ := by
  have hx := B.1
  have hb := B.2.1
  intro n
  induction n with
  | zero => intro x1 x2 x3 x4 x5 σ  hF; exact absurd hF (by intro h; cases h)
  | succ n kk51 =>
    intro x1 x2 x3 x4 x5 σ  hF H locs ls hP hD hS hl
    have hF : (vG x3 16 fun j1 => (if (σ 27 0 j1) ≤ x5 then (F_Mod_opn_162  x1 x2 x3 x4 x5 σ) else (if x4 ≤ 0 then (F_Mod_opn_162  x1 x2 x3 x4 x5 σ) else (vG (σ 44 0 0) 8 fun j7 => (vG (σ 5 0 j7) 4 fun j11 => (vG ((4 * x3) + x5) 64 fun j15 => (if (((σ 0 0 j11) >>> ((σ 29 0 j15) &&& 31)) &&& 1) = 0 then ((F_Mod_opn_51  n) x1 x2 x3 x4 (x5 + 1) σ) else (vG ((4 * x3) + x5) 64 fun j20 => (if (σ 28 0 j20) = 0 then (vG ((4 * x3) + x5) 64 fun j25 => (if ((σ 30 0 j25) &&& x4) = 0 then (F_Mod_opn_131 (F_Mod_opn_51  n) x1 x2 x3 x4 x5 ((4 * x3) + x5) σ) else (some ((-5), σ)))) else (F_Mod_opn_131 (F_Mod_opn_51  n) x1 x2 x3 x4 x5 ((4 * x3) + x5) σ)))))))))) = some (r, σ') := hF
    refine lv_iload hx hb d_Mod_opn_51 (lv_at hl 5 rfl) ?_
    refine lv_aload_n hx hb d_Mod_opn_53 rfl (lv_at hl 0 rfl) ?_
    refine gf_Mod_rules B hP (by decide) L_Mod_92 d_Mod_opn_54 ?_
    refine lv_iload_n hx hb d_Mod_opn_57 rfl (lv_at hl 3 rfl) ?_
    obtain ⟨j1, ej2, hj3, hn4, hF⟩ := vG_some hF
    refine il_Mrules B hP (by decide) hn4 ej2 d_Mod_opn_58 ?_
    refine lv_icmp_ge (tgt := 162) hx hb d_Mod_opn_59 (by decide) (fun c5 => ?_) (fun c5 => ?_)
    · have hF := vIt c5 hF
      exact T_Mod_opn_162 B hr hA  x1 x2 x3 x4 x5 σ  hF _ _ _ hP hD hS (lv_sub hl [0, 1, 2, 3, 4, 5] rfl)
    · have hF := vIf c5 hF
      refine lv_iload hx hb d_Mod_opn_62 (lv_at hl 4 rfl) ?_
      refine lv_if_le (tgt := 162) hx hb d_Mod_opn_64 (by decide) (fun c6 => ?_) (fun c6 => ?_)
      · have hF := vIt c6 hF
        exact T_Mod_opn_162 B hr hA  x1 x2 x3 x4 x5 σ  hF _ _ _ hP hD hS (lv_sub hl [0, 1, 2, 3, 4, 5] rfl)
      · have hF := vIf c6 hF
        refine lv_iconst (v := 4) hx hb d_Mod_opn_67 (by decide) ?_
        refine lv_iload_n hx hb d_Mod_opn_68 rfl (lv_at hl 3 rfl) ?_
        refine lv_imul hx hb d_Mod_opn_69 ?_
        refine lv_iload hx hb d_Mod_opn_70 (lv_at hl 5 rfl) ?_
        refine lv_iadd hx hb d_Mod_opn_72 ?_
        refine lv_istore (lv' := [(6, .int ((4 * x3) + x5)), (0, .ref (ad (pMod 0))), (1, .int x1), (2, .int x2), (3, .int x3), (4, .int x4), (5, .int x5)]) hx hb d_Mod_opn_73 hl (by decide) rfl (fun ls hl => ?_)
        refine lv_aload_n hx hb d_Mod_opn_75 rfl (lv_at hl 1 rfl) ?_
        refine gf_Mod_groups B hP (by decide) L_Mod_7 d_Mod_opn_76 ?_
        refine lv_aload_n hx hb d_Mod_opn_79 rfl (lv_at hl 1 rfl) ?_
        refine gf_Mod_home B hP (by decide) L_Mod_25 d_Mod_opn_80 ?_
        refine lv_aload_n hx hb d_Mod_opn_83 rfl (lv_at hl 1 rfl) ?_
        refine gf_Mod_running B hP (by decide) L_Mod_137 d_Mod_opn_84 ?_
        obtain ⟨j7, ej8, hj9, hn10, hF⟩ := vG_some hF
        refine il_Mhome B hP (by decide) hn10 ej8 d_Mod_opn_87 ?_
        obtain ⟨j11, ej12, hj13, hn14, hF⟩ := vG_some hF
        refine il_Mgroups B hP (by decide) hn14 ej12 d_Mod_opn_88 ?_
        refine lv_aload_n hx hb d_Mod_opn_89 rfl (lv_at hl 1 rfl) ?_
        refine gf_Mod_ruleGroup B hP (by decide) L_Mod_98 d_Mod_opn_90 ?_
        refine lv_iload hx hb d_Mod_opn_93 (lv_at hl 0 rfl) ?_
        obtain ⟨j15, ej16, hj17, hn18, hF⟩ := vG_some hF
        refine il_MruleGroup B hP (by decide) hn18 ej16 d_Mod_opn_95 ?_
        refine lv_ishr hx hb d_Mod_opn_96 ?_
        refine lv_iconst (v := 1) hx hb d_Mod_opn_97 (by decide) ?_
        refine lv_iand hx hb d_Mod_opn_98 ?_
        refine lv_if_ne (tgt := 105) hx hb d_Mod_opn_99 (by decide) (fun c19 => ?_) (fun c19 => ?_)
        · have hF := vIf c19 hF
          refine lv_aload_n hx hb d_Mod_opn_105 rfl (lv_at hl 1 rfl) ?_
          refine gf_Mod_ruleKind B hP (by decide) L_Mod_95 d_Mod_opn_106 ?_
          refine lv_iload hx hb d_Mod_opn_109 (lv_at hl 0 rfl) ?_
          obtain ⟨j20, ej21, hj22, hn23, hF⟩ := vG_some hF
          refine il_MruleKind B hP (by decide) hn23 ej21 d_Mod_opn_111 ?_
          refine lv_if_ne (tgt := 131) hx hb d_Mod_opn_112 (by decide) (fun c24 => ?_) (fun c24 => ?_)
          · have hF := vIf c24 hF
            exact T_Mod_opn_131 B hr hA kk51 x1 x2 x3 x4 x5 ((4 * x3) + x5) σ  hF _ _ _ hP hD hS (lv_sub hl [1, 2, 3, 4, 5, 6, 0] rfl)
          · have hF := vIt c24 hF
            refine lv_aload_n hx hb d_Mod_opn_115 rfl (lv_at hl 1 rfl) ?_
            refine gf_Mod_ruleRights B hP (by decide) L_Mod_101 d_Mod_opn_116 ?_
            refine lv_iload hx hb d_Mod_opn_119 (lv_at hl 0 rfl) ?_
            obtain ⟨j25, ej26, hj27, hn28, hF⟩ := vG_some hF
            refine il_MruleRights B hP (by decide) hn28 ej26 d_Mod_opn_121 ?_
            refine lv_iload hx hb d_Mod_opn_122 (lv_at hl 5 rfl) ?_
            refine lv_iand hx hb d_Mod_opn_124 ?_
            refine lv_if_eq (tgt := 131) hx hb d_Mod_opn_125 (by decide) (fun c29 => ?_) (fun c29 => ?_)
            · have hF := vIt c29 hF
              exact T_Mod_opn_131 B hr hA kk51 x1 x2 x3 x4 x5 ((4 * x3) + x5) σ  hF _ _ _ hP hD hS (lv_sub hl [1, 2, 3, 4, 5, 6, 0] rfl)
            · have hF := vIf c29 hF
              refine lv_bipush (v := (-5)) hx hb d_Mod_opn_128 (by decide) ?_
              exact ed_rI B hr hA hP hD hS (vP hF) d_Mod_opn_130
        · have hF := vIt c19 hF
          refine lv_goto (tgt := 156) hx hb d_Mod_opn_102 (by decide) ?_
          refine lv_iinc (v := (x5 + 1)) (lv' := [(5, .int (x5 + 1)), (6, .int ((4 * x3) + x5)), (0, .ref (ad (pMod 0))), (1, .int x1), (2, .int x2), (3, .int x3), (4, .int x4)]) hx hb d_Mod_opn_156 hl (k := 6) rfl rfl (by decide) rfl (fun ls hl => ?_)
          refine lv_goto (tgt := 51) hx hb d_Mod_opn_159 (by decide) ?_
          exact kk51 x1 x2 x3 x4 (x5 + 1) σ  hF _ _ _ hP hD hS (lv_sub hl [2, 3, 4, 5, 6, 0] rfl)
set_option maxHeartbeats 4000000 in
set_option maxRecDepth 100000 in
theorem T_Mod_opn {r : Int32} {σ' : ed_S} (B : ed_B p s m args meth c prog_10_method_30_code "ExecutiveDeskModel" 7 D ca) (hr : meth.sig.returnType = (some .int)) (hA : ∀ q : Nat, s.heap.size ≤ q → A q) : ∀ (x1 : Int32) (x2 : Int32) (σ : ed_S), F_Mod_opn  x1 x2 σ = some (r, σ') → ed_G p l e rm_Mod_opn s m args below meth c D ca (md_w ad ca) A (ed_QI D ca (md_w ad ca) A below args s r σ') 7 0 [(0, .ref (ad (pMod 0))), (1, .int x1), (2, .int x2)] [] σ := by
  have hx := B.1
  have hb := B.2.1
  intro x1 x2 σ  hF H locs ls hP hD hS hl
  have hF : (if 0 ≤ (σ 44 0 0) then (vB2 (F_Mod_is x1 0 15 σ) fun r4 σ2 => (if r4 = 0 then (some ((-1), σ2)) else (vB2 (F_Mod_is x2 1 7 σ2) fun r8 σ6 => (if r8 = 0 then (some ((-1), σ6)) else (vB2 (F_Mod_named x1 σ6) fun r12 σ10 => (if 0 ≤ r12 then (F_Mod_opn_51  ed_fu x1 x2 r12 x2 0 σ10) else (some ((-7), σ10)))))))) else (some ((-3), σ))) = some (r, σ') := hF
  refine lv_aload_n hx hb d_Mod_opn_0 rfl (lv_at hl 0 rfl) ?_
  refine gf_Mod_running B hP (by decide) L_Mod_137 d_Mod_opn_1 ?_
  refine lv_if_ge (tgt := 10) hx hb d_Mod_opn_4 (by decide) (fun c1 => ?_) (fun c1 => ?_)
  · have hF := vIt c1 hF
    refine lv_iload_n hx hb d_Mod_opn_10 rfl (lv_at hl 1 rfl) ?_
    refine lv_iconst (v := 0) hx hb d_Mod_opn_11 (by decide) ?_
    refine lv_bipush (v := 15) hx hb d_Mod_opn_12 (by decide) ?_
    obtain ⟨r4, σ2, q3, hF⟩ := vB2_some hF
    refine ed_csI (As := [.int x1, .int 0, .int 15]) (rest := []) B hP hD hS hA (C_Mod_is l D ad ca x1 0 15 σ r4 σ2  q3) me_Mod_is st_Mod_is L_Mod_157 ⟨rfl, rfl⟩ ⟨Nat.le_of_ble_eq_true rfl, Nat.le_of_ble_eq_true rfl⟩ rfl rfl hl.1 (lv_room (Nat.le_of_ble_eq_true rfl)) d_Mod_opn_14 (fun H locs hP hD hS => ?_)
    refine lv_if_eq (tgt := 30) hx hb d_Mod_opn_17 (by decide) (fun c5 => ?_) (fun c5 => ?_)
    · have hF := vIt c5 hF
      refine lv_iconst (v := (-1)) hx hb d_Mod_opn_30 (by decide) ?_
      exact ed_rI B hr hA hP hD hS (vP hF) d_Mod_opn_31
    · have hF := vIf c5 hF
      refine lv_iload_n hx hb d_Mod_opn_20 rfl (lv_at hl 2 rfl) ?_
      refine lv_iconst (v := 1) hx hb d_Mod_opn_21 (by decide) ?_
      refine lv_bipush (v := 7) hx hb d_Mod_opn_22 (by decide) ?_
      obtain ⟨r8, σ6, q7, hF⟩ := vB2_some hF
      refine ed_csI (As := [.int x2, .int 1, .int 7]) (rest := []) B hP hD hS hA (C_Mod_is l D ad ca x2 1 7 σ2 r8 σ6  q7) me_Mod_is st_Mod_is L_Mod_157 ⟨rfl, rfl⟩ ⟨Nat.le_of_ble_eq_true rfl, Nat.le_of_ble_eq_true rfl⟩ rfl rfl hl.1 (lv_room (Nat.le_of_ble_eq_true rfl)) d_Mod_opn_24 (fun H locs hP hD hS => ?_)
      refine lv_if_ne (tgt := 32) hx hb d_Mod_opn_27 (by decide) (fun c9 => ?_) (fun c9 => ?_)
      · have hF := vIf c9 hF
        refine lv_aload_n hx hb d_Mod_opn_32 rfl (lv_at hl 0 rfl) ?_
        refine lv_iload_n hx hb d_Mod_opn_33 rfl (lv_at hl 1 rfl) ?_
        obtain ⟨r12, σ10, q11, hF⟩ := vB2_some hF
        refine ed_cvI (As := [.int x1]) (rest := []) B hP hD hS hA (C_Mod_named l D ad ca x1 σ6 r12 σ10  q11) me_Mod_named mv_Mod_named L_Mod_233 (ed_rc_Mod B hP (by decide)) ⟨rfl, rfl⟩ ⟨Nat.le_of_ble_eq_true rfl, Nat.le_of_ble_eq_true rfl⟩ rfl rfl hl.1 (lv_room (Nat.le_of_ble_eq_true rfl)) d_Mod_opn_34 (fun H locs hP hD hS => ?_)
        refine lv_istore_n (lv' := [(3, .int r12), (0, .ref (ad (pMod 0))), (1, .int x1), (2, .int x2)]) hx hb d_Mod_opn_37 rfl hl (by decide) rfl (fun ls hl => ?_)
        refine lv_iload_n hx hb d_Mod_opn_38 rfl (lv_at hl 3 rfl) ?_
        refine lv_istore (lv' := [(4, .int x2), (3, .int r12), (0, .ref (ad (pMod 0))), (1, .int x1), (2, .int x2)]) hx hb d_Mod_opn_39 hl (by decide) rfl (fun ls hl => ?_)
        refine lv_iload_n hx hb d_Mod_opn_41 rfl (lv_at hl 1 rfl) ?_
        refine lv_if_ge (tgt := 48) hx hb d_Mod_opn_42 (by decide) (fun c13 => ?_) (fun c13 => ?_)
        · have hF := vIt c13 hF
          refine lv_iconst (v := 0) hx hb d_Mod_opn_48 (by decide) ?_
          refine lv_istore (lv' := [(5, .int 0), (4, .int x2), (3, .int r12), (0, .ref (ad (pMod 0))), (1, .int x1), (2, .int x2)]) hx hb d_Mod_opn_49 hl (by decide) rfl (fun ls hl => ?_)
          exact T_Mod_opn_51 B hr hA  ed_fu x1 x2 r12 x2 0 σ10  hF _ _ _ hP hD hS (lv_sub hl [3, 4, 5, 2, 1, 0] rfl)
        · have hF := vIf c13 hF
          refine lv_bipush (v := (-7)) hx hb d_Mod_opn_45 (by decide) ?_
          exact ed_rI B hr hA hP hD hS (vP hF) d_Mod_opn_47
      · have hF := vIt c9 hF
        refine lv_iconst (v := (-1)) hx hb d_Mod_opn_30 (by decide) ?_
        exact ed_rI B hr hA hP hD hS (vP hF) d_Mod_opn_31
  · have hF := vIf c1 hF
    refine lv_bipush (v := (-3)) hx hb d_Mod_opn_7 (by decide) ?_
    exact ed_rI B hr hA hP hD hS (vP hF) d_Mod_opn_9
set_option maxHeartbeats 4000000 in
set_option maxRecDepth 100000 in
theorem C_Mod_opn (l : Launch) (D : va_G) (ad : Nat → Nat) (ca : Nat → ClassId) (x1 : Int32) (x2 : Int32) (σ : ed_S) (r : Int32) (σ' : ed_S) (hF : F_Mod_opn x1 x2 σ = some (r, σ')) : ed_MI l y_Mod_opn ws_Mod_opn rm_Mod_opn D ca (md_w ad ca) [.ref (ad (pMod 0)), .int x1, .int x2] σ r σ' := by
  refine ed_metI (cc := prog_10_method_30_code) (own := "ExecutiveDeskModel") (nL := 7) (ret := (some .int)) (by decide) rfl rfl (Nat.le_of_ble_eq_true rfl) ?_
  intro p e s m args below meth c A B hr hA
  exact T_Mod_opn B hr hA x1 x2 σ  hF
abbrev ws_Mod_clse : List Cond := Cond.code y_Mod_clse prog_10_method_31_code 4 (some .int) :: ed_tb
abbrev rm_Mod_clse : Room := { frames := 3, cells := 0, slots := 0, locals := 66 }
def F_Mod_clse (x1 : Int32) (σ : ed_S) : Option (Int32 × ed_S) := (if 0 ≤ (σ 44 0 0) then (vB2 (F_Mod_isHandle x1 σ) fun r4 σ2 => (if r4 = 0 then (some ((-1), σ2)) else (vB2 (F_Mod_objectOf x1 σ2) fun r8 σ6 => (vG (σ6 44 0 0) 8 fun j9 => (vG ((8 * (σ6 5 0 j9)) + x1) 32 fun j13 => vL (ed_st σ6 3 0 j13 (-1)) fun σ17 => (vB2 (F_Mod_handles r8 σ17) fun r21 σ19 => (vB2 (F_Mod_end r21 σ19) fun r24 σ22 => (some (r24, σ22))))))))) else (some ((-3), σ)))
set_option maxHeartbeats 4000000 in
set_option maxRecDepth 100000 in
theorem T_Mod_clse {r : Int32} {σ' : ed_S} (B : ed_B p s m args meth c prog_10_method_31_code "ExecutiveDeskModel" 4 D ca) (hr : meth.sig.returnType = (some .int)) (hA : ∀ q : Nat, s.heap.size ≤ q → A q) : ∀ (x1 : Int32) (σ : ed_S), F_Mod_clse  x1 σ = some (r, σ') → ed_G p l e rm_Mod_clse s m args below meth c D ca (md_w ad ca) A (ed_QI D ca (md_w ad ca) A below args s r σ') 4 0 [(0, .ref (ad (pMod 0))), (1, .int x1)] [] σ := by
  have hx := B.1
  have hb := B.2.1
  intro x1 σ  hF H locs ls hP hD hS hl
  have hF : (if 0 ≤ (σ 44 0 0) then (vB2 (F_Mod_isHandle x1 σ) fun r4 σ2 => (if r4 = 0 then (some ((-1), σ2)) else (vB2 (F_Mod_objectOf x1 σ2) fun r8 σ6 => (vG (σ6 44 0 0) 8 fun j9 => (vG ((8 * (σ6 5 0 j9)) + x1) 32 fun j13 => vL (ed_st σ6 3 0 j13 (-1)) fun σ17 => (vB2 (F_Mod_handles r8 σ17) fun r21 σ19 => (vB2 (F_Mod_end r21 σ19) fun r24 σ22 => (some (r24, σ22))))))))) else (some ((-3), σ))) = some (r, σ') := hF
  refine lv_aload_n hx hb d_Mod_clse_0 rfl (lv_at hl 0 rfl) ?_
  refine gf_Mod_running B hP (by decide) L_Mod_137 d_Mod_clse_1 ?_
  refine lv_if_ge (tgt := 10) hx hb d_Mod_clse_4 (by decide) (fun c1 => ?_) (fun c1 => ?_)
  · have hF := vIt c1 hF
    refine lv_aload_n hx hb d_Mod_clse_10 rfl (lv_at hl 0 rfl) ?_
    refine lv_iload_n hx hb d_Mod_clse_11 rfl (lv_at hl 1 rfl) ?_
    obtain ⟨r4, σ2, q3, hF⟩ := vB2_some hF
    refine ed_cvI (As := [.int x1]) (rest := []) B hP hD hS hA (C_Mod_isHandle l D ad ca x1 σ r4 σ2  q3) me_Mod_isHandle mv_Mod_isHandle L_Mod_220 (ed_rc_Mod B hP (by decide)) ⟨rfl, rfl⟩ ⟨Nat.le_of_ble_eq_true rfl, Nat.le_of_ble_eq_true rfl⟩ rfl rfl hl.1 (lv_room (Nat.le_of_ble_eq_true rfl)) d_Mod_clse_12 (fun H locs hP hD hS => ?_)
    refine lv_if_ne (tgt := 20) hx hb d_Mod_clse_15 (by decide) (fun c5 => ?_) (fun c5 => ?_)
    · have hF := vIf c5 hF
      refine lv_aload_n hx hb d_Mod_clse_20 rfl (lv_at hl 0 rfl) ?_
      refine lv_iload_n hx hb d_Mod_clse_21 rfl (lv_at hl 1 rfl) ?_
      obtain ⟨r8, σ6, q7, hF⟩ := vB2_some hF
      refine ed_cvI (As := [.int x1]) (rest := []) B hP hD hS hA (C_Mod_objectOf l D ad ca x1 σ2 r8 σ6  q7) me_Mod_objectOf mv_Mod_objectOf L_Mod_224 (ed_rc_Mod B hP (by decide)) ⟨rfl, rfl⟩ ⟨Nat.le_of_ble_eq_true rfl, Nat.le_of_ble_eq_true rfl⟩ rfl rfl hl.1 (lv_room (Nat.le_of_ble_eq_true rfl)) d_Mod_clse_22 (fun H locs hP hD hS => ?_)
      refine lv_istore_n (lv' := [(2, .int r8), (0, .ref (ad (pMod 0))), (1, .int x1)]) hx hb d_Mod_clse_25 rfl hl (by decide) rfl (fun ls hl => ?_)
      refine lv_aload_n hx hb d_Mod_clse_26 rfl (lv_at hl 1 rfl) ?_
      refine gf_Mod_handleObject B hP (by decide) L_Mod_19 d_Mod_clse_27 ?_
      refine lv_bipush (v := 8) hx hb d_Mod_clse_30 (by decide) ?_
      refine lv_aload_n hx hb d_Mod_clse_32 rfl (lv_at hl 1 rfl) ?_
      refine gf_Mod_home B hP (by decide) L_Mod_25 d_Mod_clse_33 ?_
      refine lv_aload_n hx hb d_Mod_clse_36 rfl (lv_at hl 1 rfl) ?_
      refine gf_Mod_running B hP (by decide) L_Mod_137 d_Mod_clse_37 ?_
      obtain ⟨j9, ej10, hj11, hn12, hF⟩ := vG_some hF
      refine il_Mhome B hP (by decide) hn12 ej10 d_Mod_clse_40 ?_
      refine lv_imul hx hb d_Mod_clse_41 ?_
      refine lv_iload_n hx hb d_Mod_clse_42 rfl (lv_at hl 2 rfl) ?_
      refine lv_iadd hx hb d_Mod_clse_43 ?_
      refine lv_iconst (v := (-1)) hx hb d_Mod_clse_44 (by decide) ?_
      obtain ⟨j13, ej14, hj15, hn16, hF⟩ := vG_some hF
      obtain ⟨σ17, e18, hF⟩ := vL_some hF
      refine is_MhandleObject B hP hD hS (by decide) hn16 ej14 e18 d_Mod_clse_45 (fun H locs hP hD hS => ?_)
      refine lv_aload_n hx hb d_Mod_clse_46 rfl (lv_at hl 1 rfl) ?_
      refine lv_iload_n hx hb d_Mod_clse_47 rfl (lv_at hl 0 rfl) ?_
      obtain ⟨r21, σ19, q20, hF⟩ := vB2_some hF
      refine ed_cvI (As := [.int r8]) (rest := []) B hP hD hS hA (C_Mod_handles l D ad ca r8 σ17 r21 σ19  q20) me_Mod_handles mv_Mod_handles L_Mod_150 (ed_rc_Mod B hP (by decide)) ⟨rfl, rfl⟩ ⟨Nat.le_of_ble_eq_true rfl, Nat.le_of_ble_eq_true rfl⟩ rfl rfl hl.1 (lv_room (Nat.le_of_ble_eq_true rfl)) d_Mod_clse_48 (fun H locs hP hD hS => ?_)
      refine lv_istore_n (lv' := [(3, .int r21), (2, .int r8), (0, .ref (ad (pMod 0))), (1, .int x1)]) hx hb d_Mod_clse_51 rfl hl (by decide) rfl (fun ls hl => ?_)
      refine lv_aload_n hx hb d_Mod_clse_52 rfl (lv_at hl 2 rfl) ?_
      refine lv_iload_n hx hb d_Mod_clse_53 rfl (lv_at hl 0 rfl) ?_
      obtain ⟨r24, σ22, q23, hF⟩ := vB2_some hF
      refine ed_cvI (As := [.int r21]) (rest := []) B hP hD hS hA (C_Mod_end l D ad ca r21 σ19 r24 σ22  q23) me_Mod_end mv_Mod_end L_Mod_168 (ed_rc_Mod B hP (by decide)) ⟨rfl, rfl⟩ ⟨Nat.le_of_ble_eq_true rfl, Nat.le_of_ble_eq_true rfl⟩ rfl rfl hl.1 (lv_room (Nat.le_of_ble_eq_true rfl)) d_Mod_clse_54 (fun H locs hP hD hS => ?_)
      exact ed_rI B hr hA hP hD hS (vP hF) d_Mod_clse_57
    · have hF := vIt c5 hF
      refine lv_iconst (v := (-1)) hx hb d_Mod_clse_18 (by decide) ?_
      exact ed_rI B hr hA hP hD hS (vP hF) d_Mod_clse_19
  · have hF := vIf c1 hF
    refine lv_bipush (v := (-3)) hx hb d_Mod_clse_7 (by decide) ?_
    exact ed_rI B hr hA hP hD hS (vP hF) d_Mod_clse_9
set_option maxHeartbeats 4000000 in
set_option maxRecDepth 100000 in
theorem C_Mod_clse (l : Launch) (D : va_G) (ad : Nat → Nat) (ca : Nat → ClassId) (x1 : Int32) (σ : ed_S) (r : Int32) (σ' : ed_S) (hF : F_Mod_clse x1 σ = some (r, σ')) : ed_MI l y_Mod_clse ws_Mod_clse rm_Mod_clse D ca (md_w ad ca) [.ref (ad (pMod 0)), .int x1] σ r σ' := by
  refine ed_metI (cc := prog_10_method_31_code) (own := "ExecutiveDeskModel") (nL := 4) (ret := (some .int)) (by decide) rfl rfl (Nat.le_of_ble_eq_true rfl) ?_
  intro p e s m args below meth c A B hr hA
  exact T_Mod_clse B hr hA x1 σ  hF
end EDT
