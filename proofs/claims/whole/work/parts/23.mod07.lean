section EDT
variable {p : Program} {l : Launch} {e : Env} {s : State} {m : MethodId} {args : Array Value} {below : List Frame} {meth : Method} {c : Code} {D : va_G} {ad : Nat → Nat} {ca : Nat → ClassId} {A : Nat → Prop}
abbrev ws_Mod_actor : List Cond := Cond.code y_Mod_actor prog_10_method_46_code 3 (some .int) :: ed_tb
abbrev rm_Mod_actor : Room := { frames := 1, cells := 0, slots := 0, locals := 22 }
def F_Mod_actor (x1 : Int32) (x2 : Int32) (σ : ed_S) : Option (Int32 × ed_S) := (vB2 (F_Mod_is x1 0 ((σ 43 0 0) - 1) σ) fun r3 σ1 => (if r3 = 0 then (some ((-1), σ1)) else (if x2 = 0 then (vG x1 8 fun j6 => (some ((σ1 7 0 j6), σ1))) else (if x2 = 1 then (vG x1 8 fun j11 => (some ((σ1 5 0 j11), σ1))) else (if x2 = 2 then (vG x1 8 fun j16 => (some ((σ1 6 0 j16), σ1))) else (if x2 = 3 then (vG x1 8 fun j21 => (some ((σ1 8 0 j21), σ1))) else (if x2 = 4 then (vG x1 8 fun j26 => (some ((σ1 9 0 j26), σ1))) else (if x2 = 5 then (vG x1 8 fun j31 => (some ((σ1 10 0 j31), σ1))) else (if x2 = 6 then (vG x1 8 fun j36 => (some ((σ1 11 0 j36), σ1))) else (if x2 = 7 then (vG x1 8 fun j41 => (some ((σ1 12 0 j41), σ1))) else (if x2 = 8 then (vG x1 8 fun j46 => (if 0 ≤ (σ1 13 0 j46) then (vG x1 8 fun j51 => (some (((σ1 13 0 j51) - (σ1 46 0 0)), σ1))) else (some ((-1), σ1)))) else (some ((-1), σ1)))))))))))))
set_option maxHeartbeats 4000000 in
set_option maxRecDepth 100000 in
theorem T_Mod_actor {r : Int32} {σ' : ed_S} (B : ed_B p s m args meth c prog_10_method_46_code "ExecutiveDeskModel" 3 D ca) (hr : meth.sig.returnType = (some .int)) (hA : ∀ q : Nat, s.heap.size ≤ q → A q) : ∀ (x1 : Int32) (x2 : Int32) (σ : ed_S), F_Mod_actor  x1 x2 σ = some (r, σ') → ed_G p l e rm_Mod_actor s m args below meth c D ca (md_w ad ca) A (ed_QI D ca (md_w ad ca) A below args s r σ') 3 0 [(0, .ref (ad (pMod 0))), (1, .int x1), (2, .int x2)] [] σ := by
  have hx := B.1
  have hb := B.2.1
  intro x1 x2 σ  hF H locs ls hP hD hS hl
  have hF : (vB2 (F_Mod_is x1 0 ((σ 43 0 0) - 1) σ) fun r3 σ1 => (if r3 = 0 then (some ((-1), σ1)) else (if x2 = 0 then (vG x1 8 fun j6 => (some ((σ1 7 0 j6), σ1))) else (if x2 = 1 then (vG x1 8 fun j11 => (some ((σ1 5 0 j11), σ1))) else (if x2 = 2 then (vG x1 8 fun j16 => (some ((σ1 6 0 j16), σ1))) else (if x2 = 3 then (vG x1 8 fun j21 => (some ((σ1 8 0 j21), σ1))) else (if x2 = 4 then (vG x1 8 fun j26 => (some ((σ1 9 0 j26), σ1))) else (if x2 = 5 then (vG x1 8 fun j31 => (some ((σ1 10 0 j31), σ1))) else (if x2 = 6 then (vG x1 8 fun j36 => (some ((σ1 11 0 j36), σ1))) else (if x2 = 7 then (vG x1 8 fun j41 => (some ((σ1 12 0 j41), σ1))) else (if x2 = 8 then (vG x1 8 fun j46 => (if 0 ≤ (σ1 13 0 j46) then (vG x1 8 fun j51 => (some (((σ1 13 0 j51) - (σ1 46 0 0)), σ1))) else (some ((-1), σ1)))) else (some ((-1), σ1))))))))))))) = some (r, σ') := hF
  refine lv_iload_n hx hb d_Mod_actor_0 rfl (lv_at hl 1 rfl) ?_
  refine lv_iconst (v := 0) hx hb d_Mod_actor_1 (by decide) ?_
  refine lv_aload_n hx hb d_Mod_actor_2 rfl (lv_at hl 0 rfl) ?_
  refine gf_Mod_threads B hP (by decide) L_Mod_144 d_Mod_actor_3 ?_
  refine lv_iconst (v := 1) hx hb d_Mod_actor_6 (by decide) ?_
  refine lv_isub hx hb d_Mod_actor_7 ?_
  obtain ⟨r3, σ1, q2, hF⟩ := vB2_some hF
  refine ed_csI (As := [.int x1, .int 0, .int ((σ 43 0 0) - 1)]) (rest := []) B hP hD hS hA (C_Mod_is l D ad ca x1 0 ((σ 43 0 0) - 1) σ r3 σ1  q2) me_Mod_is st_Mod_is L_Mod_157 ⟨rfl, rfl⟩ ⟨Nat.le_of_ble_eq_true rfl, Nat.le_of_ble_eq_true rfl⟩ rfl rfl hl.1 (lv_room (Nat.le_of_ble_eq_true rfl)) d_Mod_actor_8 (fun H locs hP hD hS => ?_)
  refine lv_if_ne (tgt := 16) hx hb d_Mod_actor_11 (by decide) (fun c4 => ?_) (fun c4 => ?_)
  · have hF := vIf c4 hF
    refine lv_iload_n hx hb d_Mod_actor_16 rfl (lv_at hl 2 rfl) ?_
    rcases Decidable.em (x2 = 0) with c5 | c5
    · have hF := vIt c5 hF
      refine lv_tableIn (off := 51) (tgt := 68) hx hb d_Mod_actor_17 (by rw [c5]; decide) (by rw [c5]; decide) (by rw [c5]; rfl) (by decide) ?_
      refine lv_aload_n hx hb d_Mod_actor_68 rfl (lv_at hl 0 rfl) ?_
      refine gf_Mod_state B hP (by decide) L_Mod_31 d_Mod_actor_69 ?_
      refine lv_iload_n hx hb d_Mod_actor_72 rfl (lv_at hl 1 rfl) ?_
      obtain ⟨j6, ej7, hj8, hn9, hF⟩ := vG_some hF
      refine il_Mstate B hP (by decide) hn9 ej7 d_Mod_actor_73 ?_
      exact ed_rI B hr hA hP hD hS (vP hF) d_Mod_actor_74
    have hF := vIf c5 hF
    rcases Decidable.em (x2 = 1) with c10 | c10
    · have hF := vIt c10 hF
      refine lv_tableIn (off := 58) (tgt := 75) hx hb d_Mod_actor_17 (by rw [c10]; decide) (by rw [c10]; decide) (by rw [c10]; rfl) (by decide) ?_
      refine lv_aload_n hx hb d_Mod_actor_75 rfl (lv_at hl 0 rfl) ?_
      refine gf_Mod_home B hP (by decide) L_Mod_25 d_Mod_actor_76 ?_
      refine lv_iload_n hx hb d_Mod_actor_79 rfl (lv_at hl 1 rfl) ?_
      obtain ⟨j11, ej12, hj13, hn14, hF⟩ := vG_some hF
      refine il_Mhome B hP (by decide) hn14 ej12 d_Mod_actor_80 ?_
      exact ed_rI B hr hA hP hD hS (vP hF) d_Mod_actor_81
    have hF := vIf c10 hF
    rcases Decidable.em (x2 = 2) with c15 | c15
    · have hF := vIt c15 hF
      refine lv_tableIn (off := 65) (tgt := 82) hx hb d_Mod_actor_17 (by rw [c15]; decide) (by rw [c15]; decide) (by rw [c15]; rfl) (by decide) ?_
      refine lv_aload_n hx hb d_Mod_actor_82 rfl (lv_at hl 0 rfl) ?_
      refine gf_Mod_priority B hP (by decide) L_Mod_28 d_Mod_actor_83 ?_
      refine lv_iload_n hx hb d_Mod_actor_86 rfl (lv_at hl 1 rfl) ?_
      obtain ⟨j16, ej17, hj18, hn19, hF⟩ := vG_some hF
      refine il_Mpriority B hP (by decide) hn19 ej17 d_Mod_actor_87 ?_
      exact ed_rI B hr hA hP hD hS (vP hF) d_Mod_actor_88
    have hF := vIf c15 hF
    rcases Decidable.em (x2 = 3) with c20 | c20
    · have hF := vIt c20 hF
      refine lv_tableIn (off := 72) (tgt := 89) hx hb d_Mod_actor_17 (by rw [c20]; decide) (by rw [c20]; decide) (by rw [c20]; rfl) (by decide) ?_
      refine lv_aload_n hx hb d_Mod_actor_89 rfl (lv_at hl 0 rfl) ?_
      refine gf_Mod_result B hP (by decide) L_Mod_34 d_Mod_actor_90 ?_
      refine lv_iload_n hx hb d_Mod_actor_93 rfl (lv_at hl 1 rfl) ?_
      obtain ⟨j21, ej22, hj23, hn24, hF⟩ := vG_some hF
      refine il_Mresult B hP (by decide) hn24 ej22 d_Mod_actor_94 ?_
      exact ed_rI B hr hA hP hD hS (vP hF) d_Mod_actor_95
    have hF := vIf c20 hF
    rcases Decidable.em (x2 = 4) with c25 | c25
    · have hF := vIt c25 hF
      refine lv_tableIn (off := 79) (tgt := 96) hx hb d_Mod_actor_17 (by rw [c25]; decide) (by rw [c25]; decide) (by rw [c25]; rfl) (by decide) ?_
      refine lv_aload_n hx hb d_Mod_actor_96 rfl (lv_at hl 0 rfl) ?_
      refine gf_Mod_calls B hP (by decide) L_Mod_37 d_Mod_actor_97 ?_
      refine lv_iload_n hx hb d_Mod_actor_100 rfl (lv_at hl 1 rfl) ?_
      obtain ⟨j26, ej27, hj28, hn29, hF⟩ := vG_some hF
      refine il_Mcalls B hP (by decide) hn29 ej27 d_Mod_actor_101 ?_
      exact ed_rI B hr hA hP hD hS (vP hF) d_Mod_actor_102
    have hF := vIf c25 hF
    rcases Decidable.em (x2 = 5) with c30 | c30
    · have hF := vIt c30 hF
      refine lv_tableIn (off := 86) (tgt := 103) hx hb d_Mod_actor_17 (by rw [c30]; decide) (by rw [c30]; decide) (by rw [c30]; rfl) (by decide) ?_
      refine lv_aload_n hx hb d_Mod_actor_103 rfl (lv_at hl 0 rfl) ?_
      refine gf_Mod_delivered B hP (by decide) L_Mod_40 d_Mod_actor_104 ?_
      refine lv_iload_n hx hb d_Mod_actor_107 rfl (lv_at hl 1 rfl) ?_
      obtain ⟨j31, ej32, hj33, hn34, hF⟩ := vG_some hF
      refine il_Mdelivered B hP (by decide) hn34 ej32 d_Mod_actor_108 ?_
      exact ed_rI B hr hA hP hD hS (vP hF) d_Mod_actor_109
    have hF := vIf c30 hF
    rcases Decidable.em (x2 = 6) with c35 | c35
    · have hF := vIt c35 hF
      refine lv_tableIn (off := 93) (tgt := 110) hx hb d_Mod_actor_17 (by rw [c35]; decide) (by rw [c35]; decide) (by rw [c35]; rfl) (by decide) ?_
      refine lv_aload_n hx hb d_Mod_actor_110 rfl (lv_at hl 0 rfl) ?_
      refine gf_Mod_latest B hP (by decide) L_Mod_43 d_Mod_actor_111 ?_
      refine lv_iload_n hx hb d_Mod_actor_114 rfl (lv_at hl 1 rfl) ?_
      obtain ⟨j36, ej37, hj38, hn39, hF⟩ := vG_some hF
      refine il_Mlatest B hP (by decide) hn39 ej37 d_Mod_actor_115 ?_
      exact ed_rI B hr hA hP hD hS (vP hF) d_Mod_actor_116
    have hF := vIf c35 hF
    rcases Decidable.em (x2 = 7) with c40 | c40
    · have hF := vIt c40 hF
      refine lv_tableIn (off := 100) (tgt := 117) hx hb d_Mod_actor_17 (by rw [c40]; decide) (by rw [c40]; decide) (by rw [c40]; rfl) (by decide) ?_
      refine lv_aload_n hx hb d_Mod_actor_117 rfl (lv_at hl 0 rfl) ?_
      refine gf_Mod_used B hP (by decide) L_Mod_46 d_Mod_actor_118 ?_
      refine lv_iload_n hx hb d_Mod_actor_121 rfl (lv_at hl 1 rfl) ?_
      obtain ⟨j41, ej42, hj43, hn44, hF⟩ := vG_some hF
      refine il_Mused B hP (by decide) hn44 ej42 d_Mod_actor_122 ?_
      exact ed_rI B hr hA hP hD hS (vP hF) d_Mod_actor_123
    have hF := vIf c40 hF
    rcases Decidable.em (x2 = 8) with c45 | c45
    · have hF := vIt c45 hF
      refine lv_tableIn (off := 107) (tgt := 124) hx hb d_Mod_actor_17 (by rw [c45]; decide) (by rw [c45]; decide) (by rw [c45]; rfl) (by decide) ?_
      refine lv_aload_n hx hb d_Mod_actor_124 rfl (lv_at hl 0 rfl) ?_
      refine gf_Mod_due B hP (by decide) L_Mod_49 d_Mod_actor_125 ?_
      refine lv_iload_n hx hb d_Mod_actor_128 rfl (lv_at hl 1 rfl) ?_
      obtain ⟨j46, ej47, hj48, hn49, hF⟩ := vG_some hF
      refine il_Mdue B hP (by decide) hn49 ej47 d_Mod_actor_129 ?_
      refine lv_if_ge (tgt := 137) hx hb d_Mod_actor_130 (by decide) (fun c50 => ?_) (fun c50 => ?_)
      · have hF := vIt c50 hF
        refine lv_aload_n hx hb d_Mod_actor_137 rfl (lv_at hl 0 rfl) ?_
        refine gf_Mod_due B hP (by decide) L_Mod_49 d_Mod_actor_138 ?_
        refine lv_iload_n hx hb d_Mod_actor_141 rfl (lv_at hl 1 rfl) ?_
        obtain ⟨j51, ej52, hj53, hn54, hF⟩ := vG_some hF
        refine il_Mdue B hP (by decide) hn54 ej52 d_Mod_actor_142 ?_
        refine lv_aload_n hx hb d_Mod_actor_143 rfl (lv_at hl 0 rfl) ?_
        refine gf_Mod_clock B hP (by decide) L_Mod_230 d_Mod_actor_144 ?_
        refine lv_isub hx hb d_Mod_actor_147 ?_
        exact ed_rI B hr hA hP hD hS (vP hF) d_Mod_actor_148
      · have hF := vIf c50 hF
        refine lv_iconst (v := (-1)) hx hb d_Mod_actor_133 (by decide) ?_
        refine lv_goto (tgt := 148) hx hb d_Mod_actor_134 (by decide) ?_
        exact ed_rI B hr hA hP hD hS (vP hF) d_Mod_actor_148
    have hF := vIf c45 hF
    refine lv_tableOut (tgt := 149) hx hb d_Mod_actor_17 (by have qc5 := lv_neT (a := 0) c5 (by decide); have qc10 := lv_neT (a := 1) c10 (by decide); have qc15 := lv_neT (a := 2) c15 (by decide); have qc20 := lv_neT (a := 3) c20 (by decide); have qc25 := lv_neT (a := 4) c25 (by decide); have qc30 := lv_neT (a := 5) c30 (by decide); have qc35 := lv_neT (a := 6) c35 (by decide); have qc40 := lv_neT (a := 7) c40 (by decide); have qc45 := lv_neT (a := 8) c45 (by decide); omega) (by decide) ?_
    refine lv_iconst (v := (-1)) hx hb d_Mod_actor_149 (by decide) ?_
    exact ed_rI B hr hA hP hD hS (vP hF) d_Mod_actor_150
  · have hF := vIt c4 hF
    refine lv_iconst (v := (-1)) hx hb d_Mod_actor_14 (by decide) ?_
    exact ed_rI B hr hA hP hD hS (vP hF) d_Mod_actor_15
set_option maxHeartbeats 4000000 in
set_option maxRecDepth 100000 in
theorem C_Mod_actor (l : Launch) (D : va_G) (ad : Nat → Nat) (ca : Nat → ClassId) (x1 : Int32) (x2 : Int32) (σ : ed_S) (r : Int32) (σ' : ed_S) (hF : F_Mod_actor x1 x2 σ = some (r, σ')) : ed_MI l y_Mod_actor ws_Mod_actor rm_Mod_actor D ca (md_w ad ca) [.ref (ad (pMod 0)), .int x1, .int x2] σ r σ' := by
  refine ed_metI (cc := prog_10_method_46_code) (own := "ExecutiveDeskModel") (nL := 3) (ret := (some .int)) (by decide) rfl rfl (Nat.le_of_ble_eq_true rfl) ?_
  intro p e s m args below meth c A B hr hA
  exact T_Mod_actor B hr hA x1 x2 σ  hF
abbrev ws_Mod_rowOf : List Cond := Cond.code y_Mod_rowOf prog_10_method_47_code 4 (some .int) :: ed_tb
abbrev rm_Mod_rowOf : Room := { frames := 0, cells := 0, slots := 0, locals := 0 }
def F_Mod_rowOf_4 : Nat → Int32 → Int32 → Int32 → ed_S → Option (Int32 × ed_S)
  | 0, _, _, _, _ => none
  | n + 1, x1, x2, x3, σ => (if 8 ≤ x3 then (some (x2, σ)) else (vG x3 8 fun j2 => (if (σ 31 0 j2) = 0 then (vG x3 8 fun j7 => (if (σ 34 0 j7) = x1 then ((F_Mod_rowOf_4  n) x1 (x2 + 1) (x3 + 1) σ) else ((F_Mod_rowOf_4  n) x1 x2 (x3 + 1) σ))) else ((F_Mod_rowOf_4  n) x1 x2 (x3 + 1) σ))))
def F_Mod_rowOf (x1 : Int32) (σ : ed_S) : Option (Int32 × ed_S) := (F_Mod_rowOf_4  ed_fu x1 0 0 σ)
set_option maxHeartbeats 4000000 in
set_option maxRecDepth 100000 in
theorem T_Mod_rowOf_4 {r : Int32} {σ' : ed_S} (B : ed_B p s m args meth c prog_10_method_47_code "ExecutiveDeskModel" 4 D ca) (hr : meth.sig.returnType = (some .int)) (hA : ∀ q : Nat, s.heap.size ≤ q → A q) : ∀ (n : Nat) (x1 : Int32) (x2 : Int32) (x3 : Int32) (σ : ed_S), F_Mod_rowOf_4  n x1 x2 x3 σ = some (r, σ') → ed_G p l e rm_Mod_rowOf s m args below meth c D ca (md_w ad ca) A (ed_QI D ca (md_w ad ca) A below args s r σ') 4 4 [(0, .ref (ad (pMod 0))), (1, .int x1), (2, .int x2), (3, .int x3)] [] σ := by
  have hx := B.1
  have hb := B.2.1
  intro n
  induction n with
  | zero => intro x1 x2 x3 σ  hF; exact absurd hF (by intro h; cases h)
  | succ n kk4 =>
    intro x1 x2 x3 σ  hF H locs ls hP hD hS hl
    have hF : (if 8 ≤ x3 then (some (x2, σ)) else (vG x3 8 fun j2 => (if (σ 31 0 j2) = 0 then (vG x3 8 fun j7 => (if (σ 34 0 j7) = x1 then ((F_Mod_rowOf_4  n) x1 (x2 + 1) (x3 + 1) σ) else ((F_Mod_rowOf_4  n) x1 x2 (x3 + 1) σ))) else ((F_Mod_rowOf_4  n) x1 x2 (x3 + 1) σ)))) = some (r, σ') := hF
    refine lv_iload_n hx hb d_Mod_rowOf_4 rfl (lv_at hl 3 rfl) ?_
    refine lv_bipush (v := 8) hx hb d_Mod_rowOf_5 (by decide) ?_
    refine lv_icmp_ge (tgt := 38) hx hb d_Mod_rowOf_7 (by decide) (fun c1 => ?_) (fun c1 => ?_)
    · have hF := vIt c1 hF
      refine lv_iload_n hx hb d_Mod_rowOf_38 rfl (lv_at hl 2 rfl) ?_
      exact ed_rI B hr hA hP hD hS (vP hF) d_Mod_rowOf_39
    · have hF := vIf c1 hF
      refine lv_aload_n hx hb d_Mod_rowOf_10 rfl (lv_at hl 0 rfl) ?_
      refine gf_Mod_tState B hP (by decide) L_Mod_104 d_Mod_rowOf_11 ?_
      refine lv_iload_n hx hb d_Mod_rowOf_14 rfl (lv_at hl 3 rfl) ?_
      obtain ⟨j2, ej3, hj4, hn5, hF⟩ := vG_some hF
      refine il_MtState B hP (by decide) hn5 ej3 d_Mod_rowOf_15 ?_
      refine lv_if_ne (tgt := 32) hx hb d_Mod_rowOf_16 (by decide) (fun c6 => ?_) (fun c6 => ?_)
      · have hF := vIf c6 hF
        refine lv_iinc (v := (x3 + 1)) (lv' := [(3, .int (x3 + 1)), (0, .ref (ad (pMod 0))), (1, .int x1), (2, .int x2)]) hx hb d_Mod_rowOf_32 hl (k := 3) rfl rfl (by decide) rfl (fun ls hl => ?_)
        refine lv_goto (tgt := 4) hx hb d_Mod_rowOf_35 (by decide) ?_
        exact kk4 x1 x2 (x3 + 1) σ  hF _ _ _ hP hD hS (lv_sub hl [1, 2, 3, 0] rfl)
      · have hF := vIt c6 hF
        refine lv_aload_n hx hb d_Mod_rowOf_19 rfl (lv_at hl 0 rfl) ?_
        refine gf_Mod_tDevice B hP (by decide) L_Mod_113 d_Mod_rowOf_20 ?_
        refine lv_iload_n hx hb d_Mod_rowOf_23 rfl (lv_at hl 3 rfl) ?_
        obtain ⟨j7, ej8, hj9, hn10, hF⟩ := vG_some hF
        refine il_MtDevice B hP (by decide) hn10 ej8 d_Mod_rowOf_24 ?_
        refine lv_iload_n hx hb d_Mod_rowOf_25 rfl (lv_at hl 1 rfl) ?_
        refine lv_icmp_ne (tgt := 32) hx hb d_Mod_rowOf_26 (by decide) (fun c11 => ?_) (fun c11 => ?_)
        · have hF := vIf c11 hF
          refine lv_iinc (v := (x3 + 1)) (lv' := [(3, .int (x3 + 1)), (0, .ref (ad (pMod 0))), (1, .int x1), (2, .int x2)]) hx hb d_Mod_rowOf_32 hl (k := 3) rfl rfl (by decide) rfl (fun ls hl => ?_)
          refine lv_goto (tgt := 4) hx hb d_Mod_rowOf_35 (by decide) ?_
          exact kk4 x1 x2 (x3 + 1) σ  hF _ _ _ hP hD hS (lv_sub hl [1, 2, 3, 0] rfl)
        · have hF := vIt c11 hF
          refine lv_iinc (v := (x2 + 1)) (lv' := [(2, .int (x2 + 1)), (0, .ref (ad (pMod 0))), (1, .int x1), (3, .int x3)]) hx hb d_Mod_rowOf_29 hl (k := 2) rfl rfl (by decide) rfl (fun ls hl => ?_)
          refine lv_iinc (v := (x3 + 1)) (lv' := [(3, .int (x3 + 1)), (2, .int (x2 + 1)), (0, .ref (ad (pMod 0))), (1, .int x1)]) hx hb d_Mod_rowOf_32 hl (k := 3) rfl rfl (by decide) rfl (fun ls hl => ?_)
          refine lv_goto (tgt := 4) hx hb d_Mod_rowOf_35 (by decide) ?_
          exact kk4 x1 (x2 + 1) (x3 + 1) σ  hF _ _ _ hP hD hS (lv_sub hl [2, 3, 1, 0] rfl)
set_option maxHeartbeats 4000000 in
set_option maxRecDepth 100000 in
theorem T_Mod_rowOf {r : Int32} {σ' : ed_S} (B : ed_B p s m args meth c prog_10_method_47_code "ExecutiveDeskModel" 4 D ca) (hr : meth.sig.returnType = (some .int)) (hA : ∀ q : Nat, s.heap.size ≤ q → A q) : ∀ (x1 : Int32) (σ : ed_S), F_Mod_rowOf  x1 σ = some (r, σ') → ed_G p l e rm_Mod_rowOf s m args below meth c D ca (md_w ad ca) A (ed_QI D ca (md_w ad ca) A below args s r σ') 4 0 [(0, .ref (ad (pMod 0))), (1, .int x1)] [] σ := by
  have hx := B.1
  have hb := B.2.1
  intro x1 σ  hF H locs ls hP hD hS hl
  have hF : (F_Mod_rowOf_4  ed_fu x1 0 0 σ) = some (r, σ') := hF
  refine lv_iconst (v := 0) hx hb d_Mod_rowOf_0 (by decide) ?_
  refine lv_istore_n (lv' := [(2, .int 0), (0, .ref (ad (pMod 0))), (1, .int x1)]) hx hb d_Mod_rowOf_1 rfl hl (by decide) rfl (fun ls hl => ?_)
  refine lv_iconst (v := 0) hx hb d_Mod_rowOf_2 (by decide) ?_
  refine lv_istore_n (lv' := [(3, .int 0), (2, .int 0), (0, .ref (ad (pMod 0))), (1, .int x1)]) hx hb d_Mod_rowOf_3 rfl hl (by decide) rfl (fun ls hl => ?_)
  exact T_Mod_rowOf_4 B hr hA  ed_fu x1 0 0 σ  hF _ _ _ hP hD hS (lv_sub hl [2, 3, 1, 0] rfl)
set_option maxHeartbeats 4000000 in
set_option maxRecDepth 100000 in
theorem C_Mod_rowOf (l : Launch) (D : va_G) (ad : Nat → Nat) (ca : Nat → ClassId) (x1 : Int32) (σ : ed_S) (r : Int32) (σ' : ed_S) (hF : F_Mod_rowOf x1 σ = some (r, σ')) : ed_MI l y_Mod_rowOf ws_Mod_rowOf rm_Mod_rowOf D ca (md_w ad ca) [.ref (ad (pMod 0)), .int x1] σ r σ' := by
  refine ed_metI (cc := prog_10_method_47_code) (own := "ExecutiveDeskModel") (nL := 4) (ret := (some .int)) (by decide) rfl rfl (Nat.le_of_ble_eq_true rfl) ?_
  intro p e s m args below meth c A B hr hA
  exact T_Mod_rowOf B hr hA x1 σ  hF
abbrev ws_Mod_object : List Cond := Cond.code y_Mod_object prog_10_method_48_code 4 (some .int) :: ed_tb
abbrev rm_Mod_object : Room := { frames := 1, cells := 0, slots := 0, locals := 24 }
def F_Mod_object (x1 : Int32) (x2 : Int32) (σ : ed_S) : Option (Int32 × ed_S) := (vB2 (F_Mod_is x1 0 15 σ) fun r3 σ1 => (if r3 = 0 then (some ((-1), σ1)) else (vG x1 16 fun j5 => (if (σ1 19 0 j5) = 0 then (some ((-1), σ1)) else (vB2 (F_Mod_is x2 0 7 σ1) fun r12 σ10 => (if r12 = 0 then (some ((-1), σ10)) else (vG x1 16 fun j14 => (if x2 = 0 then (some ((σ10 22 0 j14), σ10)) else (if x2 = 1 then (vG x1 16 fun j20 => (some ((σ10 23 0 j20), σ10))) else (if x2 = 2 then (vB2 (F_Mod_handles x1 σ10) fun r27 σ25 => (some (r27, σ25))) else (if x2 = 3 then (vB2 (F_Mod_pointers x1 σ10) fun r31 σ29 => (some (r31, σ29))) else (if x2 = 4 then (if (σ10 22 0 j14) = 5 then (vB2 (F_Mod_rowOf x1 σ10) fun r51 σ49 => (some (r51, σ49))) else (if (σ10 22 0 j14) = 2 then (vG x1 16 fun j35 => (some ((σ10 24 0 j35), σ10))) else (if (σ10 22 0 j14) = 3 then (vG x1 16 fun j45 => (some ((σ10 24 0 j45), σ10))) else (vG x1 16 fun j40 => (if (σ10 20 0 j40) = 0 then (some (0, σ10)) else (some (1, σ10))))))) else (if x2 = 5 then (if (σ10 22 0 j14) = 2 then (vG x1 16 fun j68 => (some ((σ10 25 0 j68), σ10))) else (if (σ10 22 0 j14) = 4 then (vG x1 16 fun j59 => (if (σ10 26 0 j59) = 0 then (some (0, σ10)) else (vG x1 16 fun j64 => (some (((σ10 26 0 j64) - (σ10 46 0 0)), σ10))))) else (if (σ10 22 0 j14) = 5 then (vB2 (F_Mod_firstOf x1 σ10) fun r58 σ56 => (some (r58, σ56))) else (some (0, σ10))))) else (if x2 = 6 then (vG x1 16 fun j73 => (if (σ10 21 0 j73) = 0 then (some (0, σ10)) else (some (1, σ10)))) else (vG x1 16 fun j78 => (some ((σ10 27 0 j78), σ10)))))))))))))))))
set_option maxHeartbeats 4000000 in
set_option maxRecDepth 100000 in
theorem T_Mod_object {r : Int32} {σ' : ed_S} (B : ed_B p s m args meth c prog_10_method_48_code "ExecutiveDeskModel" 4 D ca) (hr : meth.sig.returnType = (some .int)) (hA : ∀ q : Nat, s.heap.size ≤ q → A q) : ∀ (x1 : Int32) (x2 : Int32) (σ : ed_S), F_Mod_object  x1 x2 σ = some (r, σ') → ed_G p l e rm_Mod_object s m args below meth c D ca (md_w ad ca) A (ed_QI D ca (md_w ad ca) A below args s r σ') 4 0 [(0, .ref (ad (pMod 0))), (1, .int x1), (2, .int x2)] [] σ := by
  have hx := B.1
  have hb := B.2.1
  intro x1 x2 σ  hF H locs ls hP hD hS hl
  have hF : (vB2 (F_Mod_is x1 0 15 σ) fun r3 σ1 => (if r3 = 0 then (some ((-1), σ1)) else (vG x1 16 fun j5 => (if (σ1 19 0 j5) = 0 then (some ((-1), σ1)) else (vB2 (F_Mod_is x2 0 7 σ1) fun r12 σ10 => (if r12 = 0 then (some ((-1), σ10)) else (vG x1 16 fun j14 => (if x2 = 0 then (some ((σ10 22 0 j14), σ10)) else (if x2 = 1 then (vG x1 16 fun j20 => (some ((σ10 23 0 j20), σ10))) else (if x2 = 2 then (vB2 (F_Mod_handles x1 σ10) fun r27 σ25 => (some (r27, σ25))) else (if x2 = 3 then (vB2 (F_Mod_pointers x1 σ10) fun r31 σ29 => (some (r31, σ29))) else (if x2 = 4 then (if (σ10 22 0 j14) = 5 then (vB2 (F_Mod_rowOf x1 σ10) fun r51 σ49 => (some (r51, σ49))) else (if (σ10 22 0 j14) = 2 then (vG x1 16 fun j35 => (some ((σ10 24 0 j35), σ10))) else (if (σ10 22 0 j14) = 3 then (vG x1 16 fun j45 => (some ((σ10 24 0 j45), σ10))) else (vG x1 16 fun j40 => (if (σ10 20 0 j40) = 0 then (some (0, σ10)) else (some (1, σ10))))))) else (if x2 = 5 then (if (σ10 22 0 j14) = 2 then (vG x1 16 fun j68 => (some ((σ10 25 0 j68), σ10))) else (if (σ10 22 0 j14) = 4 then (vG x1 16 fun j59 => (if (σ10 26 0 j59) = 0 then (some (0, σ10)) else (vG x1 16 fun j64 => (some (((σ10 26 0 j64) - (σ10 46 0 0)), σ10))))) else (if (σ10 22 0 j14) = 5 then (vB2 (F_Mod_firstOf x1 σ10) fun r58 σ56 => (some (r58, σ56))) else (some (0, σ10))))) else (if x2 = 6 then (vG x1 16 fun j73 => (if (σ10 21 0 j73) = 0 then (some (0, σ10)) else (some (1, σ10)))) else (vG x1 16 fun j78 => (some ((σ10 27 0 j78), σ10))))))))))))))))) = some (r, σ') := hF
  refine lv_iload_n hx hb d_Mod_object_0 rfl (lv_at hl 1 rfl) ?_
  refine lv_iconst (v := 0) hx hb d_Mod_object_1 (by decide) ?_
  refine lv_bipush (v := 15) hx hb d_Mod_object_2 (by decide) ?_
  obtain ⟨r3, σ1, q2, hF⟩ := vB2_some hF
  refine ed_csI (As := [.int x1, .int 0, .int 15]) (rest := []) B hP hD hS hA (C_Mod_is l D ad ca x1 0 15 σ r3 σ1  q2) me_Mod_is st_Mod_is L_Mod_157 ⟨rfl, rfl⟩ ⟨Nat.le_of_ble_eq_true rfl, Nat.le_of_ble_eq_true rfl⟩ rfl rfl hl.1 (lv_room (Nat.le_of_ble_eq_true rfl)) d_Mod_object_4 (fun H locs hP hD hS => ?_)
  refine lv_if_eq (tgt := 29) hx hb d_Mod_object_7 (by decide) (fun c4 => ?_) (fun c4 => ?_)
  · have hF := vIt c4 hF
    refine lv_iconst (v := (-1)) hx hb d_Mod_object_29 (by decide) ?_
    exact ed_rI B hr hA hP hD hS (vP hF) d_Mod_object_30
  · have hF := vIf c4 hF
    refine lv_aload_n hx hb d_Mod_object_10 rfl (lv_at hl 0 rfl) ?_
    refine gf_Mod_there B hP (by decide) L_Mod_67 d_Mod_object_11 ?_
    refine lv_iload_n hx hb d_Mod_object_14 rfl (lv_at hl 1 rfl) ?_
    obtain ⟨j5, ej6, hj7, hn8, hF⟩ := vG_some hF
    refine il_Mthere B hP (by decide) hn8 ej6 d_Mod_object_15 ?_
    refine lv_if_eq (tgt := 29) hx hb d_Mod_object_16 (by decide) (fun c9 => ?_) (fun c9 => ?_)
    · have hF := vIt c9 hF
      refine lv_iconst (v := (-1)) hx hb d_Mod_object_29 (by decide) ?_
      exact ed_rI B hr hA hP hD hS (vP hF) d_Mod_object_30
    · have hF := vIf c9 hF
      refine lv_iload_n hx hb d_Mod_object_19 rfl (lv_at hl 2 rfl) ?_
      refine lv_iconst (v := 0) hx hb d_Mod_object_20 (by decide) ?_
      refine lv_bipush (v := 7) hx hb d_Mod_object_21 (by decide) ?_
      obtain ⟨r12, σ10, q11, hF⟩ := vB2_some hF
      refine ed_csI (As := [.int x2, .int 0, .int 7]) (rest := []) B hP hD hS hA (C_Mod_is l D ad ca x2 0 7 σ1 r12 σ10  q11) me_Mod_is st_Mod_is L_Mod_157 ⟨rfl, rfl⟩ ⟨Nat.le_of_ble_eq_true rfl, Nat.le_of_ble_eq_true rfl⟩ rfl rfl hl.1 (lv_room (Nat.le_of_ble_eq_true rfl)) d_Mod_object_23 (fun H locs hP hD hS => ?_)
      refine lv_if_ne (tgt := 31) hx hb d_Mod_object_26 (by decide) (fun c13 => ?_) (fun c13 => ?_)
      · have hF := vIf c13 hF
        refine lv_aload_n hx hb d_Mod_object_31 rfl (lv_at hl 0 rfl) ?_
        refine gf_Mod_type B hP (by decide) L_Mod_77 d_Mod_object_32 ?_
        refine lv_iload_n hx hb d_Mod_object_35 rfl (lv_at hl 1 rfl) ?_
        obtain ⟨j14, ej15, hj16, hn17, hF⟩ := vG_some hF
        refine il_Mtype B hP (by decide) hn17 ej15 d_Mod_object_36 ?_
        refine lv_istore_n (lv' := [(3, .int (σ10 22 0 j14)), (0, .ref (ad (pMod 0))), (1, .int x1), (2, .int x2)]) hx hb d_Mod_object_37 rfl hl (by decide) rfl (fun ls hl => ?_)
        refine lv_iload_n hx hb d_Mod_object_38 rfl (lv_at hl 3 rfl) ?_
        rcases Decidable.em (x2 = 0) with c18 | c18
        · have hF := vIt c18 hF
          refine lv_tableIn (off := 41) (tgt := 80) hx hb d_Mod_object_39 (by rw [c18]; decide) (by rw [c18]; decide) (by rw [c18]; rfl) (by decide) ?_
          refine lv_iload_n hx hb d_Mod_object_80 rfl (lv_at hl 0 rfl) ?_
          exact ed_rI B hr hA hP hD hS (vP hF) d_Mod_object_81
        have hF := vIf c18 hF
        rcases Decidable.em (x2 = 1) with c19 | c19
        · have hF := vIt c19 hF
          refine lv_tableIn (off := 43) (tgt := 82) hx hb d_Mod_object_39 (by rw [c19]; decide) (by rw [c19]; decide) (by rw [c19]; rfl) (by decide) ?_
          refine lv_aload_n hx hb d_Mod_object_82 rfl (lv_at hl 1 rfl) ?_
          refine gf_Mod_name B hP (by decide) L_Mod_80 d_Mod_object_83 ?_
          refine lv_iload_n hx hb d_Mod_object_86 rfl (lv_at hl 2 rfl) ?_
          obtain ⟨j20, ej21, hj22, hn23, hF⟩ := vG_some hF
          refine il_Mname B hP (by decide) hn23 ej21 d_Mod_object_87 ?_
          exact ed_rI B hr hA hP hD hS (vP hF) d_Mod_object_88
        have hF := vIf c19 hF
        rcases Decidable.em (x2 = 2) with c24 | c24
        · have hF := vIt c24 hF
          refine lv_tableIn (off := 50) (tgt := 89) hx hb d_Mod_object_39 (by rw [c24]; decide) (by rw [c24]; decide) (by rw [c24]; rfl) (by decide) ?_
          refine lv_aload_n hx hb d_Mod_object_89 rfl (lv_at hl 1 rfl) ?_
          refine lv_iload_n hx hb d_Mod_object_90 rfl (lv_at hl 2 rfl) ?_
          obtain ⟨r27, σ25, q26, hF⟩ := vB2_some hF
          refine ed_cvI (As := [.int x1]) (rest := []) B hP hD hS hA (C_Mod_handles l D ad ca x1 σ10 r27 σ25  q26) me_Mod_handles mv_Mod_handles L_Mod_150 (ed_rc_Mod B hP (by decide)) ⟨rfl, rfl⟩ ⟨Nat.le_of_ble_eq_true rfl, Nat.le_of_ble_eq_true rfl⟩ rfl rfl hl.1 (lv_room (Nat.le_of_ble_eq_true rfl)) d_Mod_object_91 (fun H locs hP hD hS => ?_)
          exact ed_rI B hr hA hP hD hS (vP hF) d_Mod_object_94
        have hF := vIf c24 hF
        rcases Decidable.em (x2 = 3) with c28 | c28
        · have hF := vIt c28 hF
          refine lv_tableIn (off := 56) (tgt := 95) hx hb d_Mod_object_39 (by rw [c28]; decide) (by rw [c28]; decide) (by rw [c28]; rfl) (by decide) ?_
          refine lv_aload_n hx hb d_Mod_object_95 rfl (lv_at hl 1 rfl) ?_
          refine lv_iload_n hx hb d_Mod_object_96 rfl (lv_at hl 2 rfl) ?_
          obtain ⟨r31, σ29, q30, hF⟩ := vB2_some hF
          refine ed_cvI (As := [.int x1]) (rest := []) B hP hD hS hA (C_Mod_pointers l D ad ca x1 σ10 r31 σ29  q30) me_Mod_pointers mv_Mod_pointers L_Mod_154 (ed_rc_Mod B hP (by decide)) ⟨rfl, rfl⟩ ⟨Nat.le_of_ble_eq_true rfl, Nat.le_of_ble_eq_true rfl⟩ rfl rfl hl.1 (lv_room (Nat.le_of_ble_eq_true rfl)) d_Mod_object_97 (fun H locs hP hD hS => ?_)
          exact ed_rI B hr hA hP hD hS (vP hF) d_Mod_object_100
        have hF := vIf c28 hF
        rcases Decidable.em (x2 = 4) with c32 | c32
        · have hF := vIt c32 hF
          refine lv_tableIn (off := 62) (tgt := 101) hx hb d_Mod_object_39 (by rw [c32]; decide) (by rw [c32]; decide) (by rw [c32]; rfl) (by decide) ?_
          refine lv_iload_n hx hb d_Mod_object_101 rfl (lv_at hl 0 rfl) ?_
          refine lv_iconst (v := 5) hx hb d_Mod_object_102 (by decide) ?_
          refine lv_icmp_ne (tgt := 114) hx hb d_Mod_object_103 (by decide) (fun c33 => ?_) (fun c33 => ?_)
          · have hF := vIf c33 hF
            refine lv_iload_n hx hb d_Mod_object_114 rfl (lv_at hl 0 rfl) ?_
            refine lv_iconst (v := 2) hx hb d_Mod_object_115 (by decide) ?_
            refine lv_icmp_eq (tgt := 124) hx hb d_Mod_object_116 (by decide) (fun c34 => ?_) (fun c34 => ?_)
            · have hF := vIt c34 hF
              refine lv_aload_n hx hb d_Mod_object_124 rfl (lv_at hl 1 rfl) ?_
              refine gf_Mod_count B hP (by decide) L_Mod_83 d_Mod_object_125 ?_
              refine lv_iload_n hx hb d_Mod_object_128 rfl (lv_at hl 2 rfl) ?_
              obtain ⟨j35, ej36, hj37, hn38, hF⟩ := vG_some hF
              refine il_Mcount B hP (by decide) hn38 ej36 d_Mod_object_129 ?_
              refine lv_goto (tgt := 147) hx hb d_Mod_object_130 (by decide) ?_
              exact ed_rI B hr hA hP hD hS (vP hF) d_Mod_object_147
            · have hF := vIf c34 hF
              refine lv_iload_n hx hb d_Mod_object_119 rfl (lv_at hl 0 rfl) ?_
              refine lv_iconst (v := 3) hx hb d_Mod_object_120 (by decide) ?_
              refine lv_icmp_ne (tgt := 133) hx hb d_Mod_object_121 (by decide) (fun c39 => ?_) (fun c39 => ?_)
              · have hF := vIf c39 hF
                refine lv_aload_n hx hb d_Mod_object_133 rfl (lv_at hl 1 rfl) ?_
                refine gf_Mod_isSet B hP (by decide) L_Mod_71 d_Mod_object_134 ?_
                refine lv_iload_n hx hb d_Mod_object_137 rfl (lv_at hl 2 rfl) ?_
                obtain ⟨j40, ej41, hj42, hn43, hF⟩ := vG_some hF
                refine il_MisSet B hP (by decide) hn43 ej41 d_Mod_object_138 ?_
                refine lv_if_eq (tgt := 146) hx hb d_Mod_object_139 (by decide) (fun c44 => ?_) (fun c44 => ?_)
                · have hF := vIt c44 hF
                  refine lv_iconst (v := 0) hx hb d_Mod_object_146 (by decide) ?_
                  exact ed_rI B hr hA hP hD hS (vP hF) d_Mod_object_147
                · have hF := vIf c44 hF
                  refine lv_iconst (v := 1) hx hb d_Mod_object_142 (by decide) ?_
                  refine lv_goto (tgt := 147) hx hb d_Mod_object_143 (by decide) ?_
                  exact ed_rI B hr hA hP hD hS (vP hF) d_Mod_object_147
              · have hF := vIt c39 hF
                refine lv_aload_n hx hb d_Mod_object_124 rfl (lv_at hl 1 rfl) ?_
                refine gf_Mod_count B hP (by decide) L_Mod_83 d_Mod_object_125 ?_
                refine lv_iload_n hx hb d_Mod_object_128 rfl (lv_at hl 2 rfl) ?_
                obtain ⟨j45, ej46, hj47, hn48, hF⟩ := vG_some hF
                refine il_Mcount B hP (by decide) hn48 ej46 d_Mod_object_129 ?_
                refine lv_goto (tgt := 147) hx hb d_Mod_object_130 (by decide) ?_
                exact ed_rI B hr hA hP hD hS (vP hF) d_Mod_object_147
          · have hF := vIt c33 hF
            refine lv_aload_n hx hb d_Mod_object_106 rfl (lv_at hl 1 rfl) ?_
            refine lv_iload_n hx hb d_Mod_object_107 rfl (lv_at hl 2 rfl) ?_
            obtain ⟨r51, σ49, q50, hF⟩ := vB2_some hF
            refine ed_cvI (As := [.int x1]) (rest := []) B hP hD hS hA (C_Mod_rowOf l D ad ca x1 σ10 r51 σ49  q50) me_Mod_rowOf mv_Mod_rowOf L_Mod_269 (ed_rc_Mod B hP (by decide)) ⟨rfl, rfl⟩ ⟨Nat.le_of_ble_eq_true rfl, Nat.le_of_ble_eq_true rfl⟩ rfl rfl hl.1 (lv_room (Nat.le_of_ble_eq_true rfl)) d_Mod_object_108 (fun H locs hP hD hS => ?_)
            refine lv_goto (tgt := 147) hx hb d_Mod_object_111 (by decide) ?_
            exact ed_rI B hr hA hP hD hS (vP hF) d_Mod_object_147
        have hF := vIf c32 hF
        rcases Decidable.em (x2 = 5) with c52 | c52
        · have hF := vIt c52 hF
          refine lv_tableIn (off := 109) (tgt := 148) hx hb d_Mod_object_39 (by rw [c52]; decide) (by rw [c52]; decide) (by rw [c52]; rfl) (by decide) ?_
          refine lv_iload_n hx hb d_Mod_object_148 rfl (lv_at hl 0 rfl) ?_
          refine lv_iconst (v := 2) hx hb d_Mod_object_149 (by decide) ?_
          refine lv_icmp_ne (tgt := 162) hx hb d_Mod_object_150 (by decide) (fun c53 => ?_) (fun c53 => ?_)
          · have hF := vIf c53 hF
            refine lv_iload_n hx hb d_Mod_object_162 rfl (lv_at hl 0 rfl) ?_
            refine lv_iconst (v := 4) hx hb d_Mod_object_163 (by decide) ?_
            refine lv_icmp_ne (tgt := 194) hx hb d_Mod_object_164 (by decide) (fun c54 => ?_) (fun c54 => ?_)
            · have hF := vIf c54 hF
              refine lv_iload_n hx hb d_Mod_object_194 rfl (lv_at hl 0 rfl) ?_
              refine lv_iconst (v := 5) hx hb d_Mod_object_195 (by decide) ?_
              refine lv_icmp_ne (tgt := 207) hx hb d_Mod_object_196 (by decide) (fun c55 => ?_) (fun c55 => ?_)
              · have hF := vIf c55 hF
                refine lv_iconst (v := 0) hx hb d_Mod_object_207 (by decide) ?_
                exact ed_rI B hr hA hP hD hS (vP hF) d_Mod_object_208
              · have hF := vIt c55 hF
                refine lv_aload_n hx hb d_Mod_object_199 rfl (lv_at hl 1 rfl) ?_
                refine lv_iload_n hx hb d_Mod_object_200 rfl (lv_at hl 2 rfl) ?_
                obtain ⟨r58, σ56, q57, hF⟩ := vB2_some hF
                refine ed_cvI (As := [.int x1]) (rest := []) B hP hD hS hA (C_Mod_firstOf l D ad ca x1 σ10 r58 σ56  q57) me_Mod_firstOf mv_Mod_firstOf L_Mod_256 (ed_rc_Mod B hP (by decide)) ⟨rfl, rfl⟩ ⟨Nat.le_of_ble_eq_true rfl, Nat.le_of_ble_eq_true rfl⟩ rfl rfl hl.1 (lv_room (Nat.le_of_ble_eq_true rfl)) d_Mod_object_201 (fun H locs hP hD hS => ?_)
                refine lv_goto (tgt := 208) hx hb d_Mod_object_204 (by decide) ?_
                exact ed_rI B hr hA hP hD hS (vP hF) d_Mod_object_208
            · have hF := vIt c54 hF
              refine lv_aload_n hx hb d_Mod_object_167 rfl (lv_at hl 1 rfl) ?_
              refine gf_Mod_time B hP (by decide) L_Mod_89 d_Mod_object_168 ?_
              refine lv_iload_n hx hb d_Mod_object_171 rfl (lv_at hl 2 rfl) ?_
              obtain ⟨j59, ej60, hj61, hn62, hF⟩ := vG_some hF
              refine il_Mtime B hP (by decide) hn62 ej60 d_Mod_object_172 ?_
              refine lv_if_ne (tgt := 180) hx hb d_Mod_object_173 (by decide) (fun c63 => ?_) (fun c63 => ?_)
              · have hF := vIf c63 hF
                refine lv_aload_n hx hb d_Mod_object_180 rfl (lv_at hl 1 rfl) ?_
                refine gf_Mod_time B hP (by decide) L_Mod_89 d_Mod_object_181 ?_
                refine lv_iload_n hx hb d_Mod_object_184 rfl (lv_at hl 2 rfl) ?_
                obtain ⟨j64, ej65, hj66, hn67, hF⟩ := vG_some hF
                refine il_Mtime B hP (by decide) hn67 ej65 d_Mod_object_185 ?_
                refine lv_aload_n hx hb d_Mod_object_186 rfl (lv_at hl 1 rfl) ?_
                refine gf_Mod_clock B hP (by decide) L_Mod_230 d_Mod_object_187 ?_
                refine lv_isub hx hb d_Mod_object_190 ?_
                refine lv_goto (tgt := 208) hx hb d_Mod_object_191 (by decide) ?_
                exact ed_rI B hr hA hP hD hS (vP hF) d_Mod_object_208
              · have hF := vIt c63 hF
                refine lv_iconst (v := 0) hx hb d_Mod_object_176 (by decide) ?_
                refine lv_goto (tgt := 208) hx hb d_Mod_object_177 (by decide) ?_
                exact ed_rI B hr hA hP hD hS (vP hF) d_Mod_object_208
          · have hF := vIt c53 hF
            refine lv_aload_n hx hb d_Mod_object_153 rfl (lv_at hl 1 rfl) ?_
            refine gf_Mod_owner B hP (by decide) L_Mod_86 d_Mod_object_154 ?_
            refine lv_iload_n hx hb d_Mod_object_157 rfl (lv_at hl 2 rfl) ?_
            obtain ⟨j68, ej69, hj70, hn71, hF⟩ := vG_some hF
            refine il_Mowner B hP (by decide) hn71 ej69 d_Mod_object_158 ?_
            refine lv_goto (tgt := 208) hx hb d_Mod_object_159 (by decide) ?_
            exact ed_rI B hr hA hP hD hS (vP hF) d_Mod_object_208
        have hF := vIf c52 hF
        rcases Decidable.em (x2 = 6) with c72 | c72
        · have hF := vIt c72 hF
          refine lv_tableIn (off := 170) (tgt := 209) hx hb d_Mod_object_39 (by rw [c72]; decide) (by rw [c72]; decide) (by rw [c72]; rfl) (by decide) ?_
          refine lv_aload_n hx hb d_Mod_object_209 rfl (lv_at hl 1 rfl) ?_
          refine gf_Mod_abandoned B hP (by decide) L_Mod_74 d_Mod_object_210 ?_
          refine lv_iload_n hx hb d_Mod_object_213 rfl (lv_at hl 2 rfl) ?_
          obtain ⟨j73, ej74, hj75, hn76, hF⟩ := vG_some hF
          refine il_Mabandoned B hP (by decide) hn76 ej74 d_Mod_object_214 ?_
          refine lv_if_eq (tgt := 222) hx hb d_Mod_object_215 (by decide) (fun c77 => ?_) (fun c77 => ?_)
          · have hF := vIt c77 hF
            refine lv_iconst (v := 0) hx hb d_Mod_object_222 (by decide) ?_
            exact ed_rI B hr hA hP hD hS (vP hF) d_Mod_object_223
          · have hF := vIf c77 hF
            refine lv_iconst (v := 1) hx hb d_Mod_object_218 (by decide) ?_
            refine lv_goto (tgt := 223) hx hb d_Mod_object_219 (by decide) ?_
            exact ed_rI B hr hA hP hD hS (vP hF) d_Mod_object_223
        have hF := vIf c72 hF
        refine lv_tableOut (tgt := 224) hx hb d_Mod_object_39 (by have qc18 := lv_neT (a := 0) c18 (by decide); have qc19 := lv_neT (a := 1) c19 (by decide); have qc24 := lv_neT (a := 2) c24 (by decide); have qc28 := lv_neT (a := 3) c28 (by decide); have qc32 := lv_neT (a := 4) c32 (by decide); have qc52 := lv_neT (a := 5) c52 (by decide); have qc72 := lv_neT (a := 6) c72 (by decide); omega) (by decide) ?_
        refine lv_aload_n hx hb d_Mod_object_224 rfl (lv_at hl 1 rfl) ?_
        refine gf_Mod_rules B hP (by decide) L_Mod_92 d_Mod_object_225 ?_
        refine lv_iload_n hx hb d_Mod_object_228 rfl (lv_at hl 2 rfl) ?_
        obtain ⟨j78, ej79, hj80, hn81, hF⟩ := vG_some hF
        refine il_Mrules B hP (by decide) hn81 ej79 d_Mod_object_229 ?_
        exact ed_rI B hr hA hP hD hS (vP hF) d_Mod_object_230
      · have hF := vIt c13 hF
        refine lv_iconst (v := (-1)) hx hb d_Mod_object_29 (by decide) ?_
        exact ed_rI B hr hA hP hD hS (vP hF) d_Mod_object_30
set_option maxHeartbeats 4000000 in
set_option maxRecDepth 100000 in
theorem C_Mod_object (l : Launch) (D : va_G) (ad : Nat → Nat) (ca : Nat → ClassId) (x1 : Int32) (x2 : Int32) (σ : ed_S) (r : Int32) (σ' : ed_S) (hF : F_Mod_object x1 x2 σ = some (r, σ')) : ed_MI l y_Mod_object ws_Mod_object rm_Mod_object D ca (md_w ad ca) [.ref (ad (pMod 0)), .int x1, .int x2] σ r σ' := by
  refine ed_metI (cc := prog_10_method_48_code) (own := "ExecutiveDeskModel") (nL := 4) (ret := (some .int)) (by decide) rfl rfl (Nat.le_of_ble_eq_true rfl) ?_
  intro p e s m args below meth c A B hr hA
  exact T_Mod_object B hr hA x1 x2 σ  hF
abbrev ws_Mod_io : List Cond := Cond.code y_Mod_io prog_10_method_49_code 3 (some .int) :: ed_tb
abbrev rm_Mod_io : Room := { frames := 1, cells := 0, slots := 0, locals := 22 }
def F_Mod_io (x1 : Int32) (x2 : Int32) (σ : ed_S) : Option (Int32 × ed_S) := (vB2 (F_Mod_is x1 0 7 σ) fun r3 σ1 => (if r3 = 0 then (some ((-1), σ1)) else (vG x1 8 fun j5 => (if 0 ≤ (σ1 31 0 j5) then (if x2 = 0 then (vG x1 8 fun j11 => (some ((σ1 31 0 j11), σ1))) else (if x2 = 1 then (vG x1 8 fun j16 => (some ((σ1 32 0 j16), σ1))) else (if x2 = 2 then (vG x1 8 fun j21 => (some ((σ1 33 0 j21), σ1))) else (if x2 = 3 then (vG x1 8 fun j26 => (some ((σ1 34 0 j26), σ1))) else (if x2 = 4 then (vG x1 8 fun j31 => (some ((σ1 35 0 j31), σ1))) else (if x2 = 5 then (vG x1 8 fun j36 => (if (σ1 38 0 j36) = 0 then (some (0, σ1)) else (vG x1 8 fun j41 => (if (σ1 31 0 j41) = 0 then (some (1, σ1)) else (some (0, σ1)))))) else (if x2 = 6 then (vG x1 8 fun j47 => (if (σ1 39 0 j47) = 0 then (some (0, σ1)) else (some (1, σ1)))) else (some ((-1), σ1))))))))) else (some ((-1), σ1))))))
set_option maxHeartbeats 4000000 in
set_option maxRecDepth 100000 in
theorem T_Mod_io {r : Int32} {σ' : ed_S} (B : ed_B p s m args meth c prog_10_method_49_code "ExecutiveDeskModel" 3 D ca) (hr : meth.sig.returnType = (some .int)) (hA : ∀ q : Nat, s.heap.size ≤ q → A q) : ∀ (x1 : Int32) (x2 : Int32) (σ : ed_S), F_Mod_io  x1 x2 σ = some (r, σ') → ed_G p l e rm_Mod_io s m args below meth c D ca (md_w ad ca) A (ed_QI D ca (md_w ad ca) A below args s r σ') 3 0 [(0, .ref (ad (pMod 0))), (1, .int x1), (2, .int x2)] [] σ := by
  have hx := B.1
  have hb := B.2.1
  intro x1 x2 σ  hF H locs ls hP hD hS hl
  have hF : (vB2 (F_Mod_is x1 0 7 σ) fun r3 σ1 => (if r3 = 0 then (some ((-1), σ1)) else (vG x1 8 fun j5 => (if 0 ≤ (σ1 31 0 j5) then (if x2 = 0 then (vG x1 8 fun j11 => (some ((σ1 31 0 j11), σ1))) else (if x2 = 1 then (vG x1 8 fun j16 => (some ((σ1 32 0 j16), σ1))) else (if x2 = 2 then (vG x1 8 fun j21 => (some ((σ1 33 0 j21), σ1))) else (if x2 = 3 then (vG x1 8 fun j26 => (some ((σ1 34 0 j26), σ1))) else (if x2 = 4 then (vG x1 8 fun j31 => (some ((σ1 35 0 j31), σ1))) else (if x2 = 5 then (vG x1 8 fun j36 => (if (σ1 38 0 j36) = 0 then (some (0, σ1)) else (vG x1 8 fun j41 => (if (σ1 31 0 j41) = 0 then (some (1, σ1)) else (some (0, σ1)))))) else (if x2 = 6 then (vG x1 8 fun j47 => (if (σ1 39 0 j47) = 0 then (some (0, σ1)) else (some (1, σ1)))) else (some ((-1), σ1))))))))) else (some ((-1), σ1)))))) = some (r, σ') := hF
  refine lv_iload_n hx hb d_Mod_io_0 rfl (lv_at hl 1 rfl) ?_
  refine lv_iconst (v := 0) hx hb d_Mod_io_1 (by decide) ?_
  refine lv_bipush (v := 7) hx hb d_Mod_io_2 (by decide) ?_
  obtain ⟨r3, σ1, q2, hF⟩ := vB2_some hF
  refine ed_csI (As := [.int x1, .int 0, .int 7]) (rest := []) B hP hD hS hA (C_Mod_is l D ad ca x1 0 7 σ r3 σ1  q2) me_Mod_is st_Mod_is L_Mod_157 ⟨rfl, rfl⟩ ⟨Nat.le_of_ble_eq_true rfl, Nat.le_of_ble_eq_true rfl⟩ rfl rfl hl.1 (lv_room (Nat.le_of_ble_eq_true rfl)) d_Mod_io_4 (fun H locs hP hD hS => ?_)
  refine lv_if_eq (tgt := 19) hx hb d_Mod_io_7 (by decide) (fun c4 => ?_) (fun c4 => ?_)
  · have hF := vIt c4 hF
    refine lv_iconst (v := (-1)) hx hb d_Mod_io_19 (by decide) ?_
    exact ed_rI B hr hA hP hD hS (vP hF) d_Mod_io_20
  · have hF := vIf c4 hF
    refine lv_aload_n hx hb d_Mod_io_10 rfl (lv_at hl 0 rfl) ?_
    refine gf_Mod_tState B hP (by decide) L_Mod_104 d_Mod_io_11 ?_
    refine lv_iload_n hx hb d_Mod_io_14 rfl (lv_at hl 1 rfl) ?_
    obtain ⟨j5, ej6, hj7, hn8, hF⟩ := vG_some hF
    refine il_MtState B hP (by decide) hn8 ej6 d_Mod_io_15 ?_
    refine lv_if_ge (tgt := 21) hx hb d_Mod_io_16 (by decide) (fun c9 => ?_) (fun c9 => ?_)
    · have hF := vIt c9 hF
      refine lv_iload_n hx hb d_Mod_io_21 rfl (lv_at hl 2 rfl) ?_
      rcases Decidable.em (x2 = 0) with c10 | c10
      · have hF := vIt c10 hF
        refine lv_tableIn (off := 42) (tgt := 64) hx hb d_Mod_io_22 (by rw [c10]; decide) (by rw [c10]; decide) (by rw [c10]; rfl) (by decide) ?_
        refine lv_aload_n hx hb d_Mod_io_64 rfl (lv_at hl 0 rfl) ?_
        refine gf_Mod_tState B hP (by decide) L_Mod_104 d_Mod_io_65 ?_
        refine lv_iload_n hx hb d_Mod_io_68 rfl (lv_at hl 1 rfl) ?_
        obtain ⟨j11, ej12, hj13, hn14, hF⟩ := vG_some hF
        refine il_MtState B hP (by decide) hn14 ej12 d_Mod_io_69 ?_
        exact ed_rI B hr hA hP hD hS (vP hF) d_Mod_io_70
      have hF := vIf c10 hF
      rcases Decidable.em (x2 = 1) with c15 | c15
      · have hF := vIt c15 hF
        refine lv_tableIn (off := 49) (tgt := 71) hx hb d_Mod_io_22 (by rw [c15]; decide) (by rw [c15]; decide) (by rw [c15]; rfl) (by decide) ?_
        refine lv_aload_n hx hb d_Mod_io_71 rfl (lv_at hl 0 rfl) ?_
        refine gf_Mod_tAmount B hP (by decide) L_Mod_107 d_Mod_io_72 ?_
        refine lv_iload_n hx hb d_Mod_io_75 rfl (lv_at hl 1 rfl) ?_
        obtain ⟨j16, ej17, hj18, hn19, hF⟩ := vG_some hF
        refine il_MtAmount B hP (by decide) hn19 ej17 d_Mod_io_76 ?_
        exact ed_rI B hr hA hP hD hS (vP hF) d_Mod_io_77
      have hF := vIf c15 hF
      rcases Decidable.em (x2 = 2) with c20 | c20
      · have hF := vIt c20 hF
        refine lv_tableIn (off := 56) (tgt := 78) hx hb d_Mod_io_22 (by rw [c20]; decide) (by rw [c20]; decide) (by rw [c20]; rfl) (by decide) ?_
        refine lv_aload_n hx hb d_Mod_io_78 rfl (lv_at hl 0 rfl) ?_
        refine gf_Mod_tThread B hP (by decide) L_Mod_110 d_Mod_io_79 ?_
        refine lv_iload_n hx hb d_Mod_io_82 rfl (lv_at hl 1 rfl) ?_
        obtain ⟨j21, ej22, hj23, hn24, hF⟩ := vG_some hF
        refine il_MtThread B hP (by decide) hn24 ej22 d_Mod_io_83 ?_
        exact ed_rI B hr hA hP hD hS (vP hF) d_Mod_io_84
      have hF := vIf c20 hF
      rcases Decidable.em (x2 = 3) with c25 | c25
      · have hF := vIt c25 hF
        refine lv_tableIn (off := 63) (tgt := 85) hx hb d_Mod_io_22 (by rw [c25]; decide) (by rw [c25]; decide) (by rw [c25]; rfl) (by decide) ?_
        refine lv_aload_n hx hb d_Mod_io_85 rfl (lv_at hl 0 rfl) ?_
        refine gf_Mod_tDevice B hP (by decide) L_Mod_113 d_Mod_io_86 ?_
        refine lv_iload_n hx hb d_Mod_io_89 rfl (lv_at hl 1 rfl) ?_
        obtain ⟨j26, ej27, hj28, hn29, hF⟩ := vG_some hF
        refine il_MtDevice B hP (by decide) hn29 ej27 d_Mod_io_90 ?_
        exact ed_rI B hr hA hP hD hS (vP hF) d_Mod_io_91
      have hF := vIf c25 hF
      rcases Decidable.em (x2 = 4) with c30 | c30
      · have hF := vIt c30 hF
        refine lv_tableIn (off := 70) (tgt := 92) hx hb d_Mod_io_22 (by rw [c30]; decide) (by rw [c30]; decide) (by rw [c30]; rfl) (by decide) ?_
        refine lv_aload_n hx hb d_Mod_io_92 rfl (lv_at hl 0 rfl) ?_
        refine gf_Mod_tLength B hP (by decide) L_Mod_116 d_Mod_io_93 ?_
        refine lv_iload_n hx hb d_Mod_io_96 rfl (lv_at hl 1 rfl) ?_
        obtain ⟨j31, ej32, hj33, hn34, hF⟩ := vG_some hF
        refine il_MtLength B hP (by decide) hn34 ej32 d_Mod_io_97 ?_
        exact ed_rI B hr hA hP hD hS (vP hF) d_Mod_io_98
      have hF := vIf c30 hF
      rcases Decidable.em (x2 = 5) with c35 | c35
      · have hF := vIt c35 hF
        refine lv_tableIn (off := 77) (tgt := 99) hx hb d_Mod_io_22 (by rw [c35]; decide) (by rw [c35]; decide) (by rw [c35]; rfl) (by decide) ?_
        refine lv_aload_n hx hb d_Mod_io_99 rfl (lv_at hl 0 rfl) ?_
        refine gf_Mod_tCancel B hP (by decide) L_Mod_125 d_Mod_io_100 ?_
        refine lv_iload_n hx hb d_Mod_io_103 rfl (lv_at hl 1 rfl) ?_
        obtain ⟨j36, ej37, hj38, hn39, hF⟩ := vG_some hF
        refine il_MtCancel B hP (by decide) hn39 ej37 d_Mod_io_104 ?_
        refine lv_if_eq (tgt := 121) hx hb d_Mod_io_105 (by decide) (fun c40 => ?_) (fun c40 => ?_)
        · have hF := vIt c40 hF
          refine lv_iconst (v := 0) hx hb d_Mod_io_121 (by decide) ?_
          exact ed_rI B hr hA hP hD hS (vP hF) d_Mod_io_122
        · have hF := vIf c40 hF
          refine lv_aload_n hx hb d_Mod_io_108 rfl (lv_at hl 0 rfl) ?_
          refine gf_Mod_tState B hP (by decide) L_Mod_104 d_Mod_io_109 ?_
          refine lv_iload_n hx hb d_Mod_io_112 rfl (lv_at hl 1 rfl) ?_
          obtain ⟨j41, ej42, hj43, hn44, hF⟩ := vG_some hF
          refine il_MtState B hP (by decide) hn44 ej42 d_Mod_io_113 ?_
          refine lv_if_ne (tgt := 121) hx hb d_Mod_io_114 (by decide) (fun c45 => ?_) (fun c45 => ?_)
          · have hF := vIf c45 hF
            refine lv_iconst (v := 0) hx hb d_Mod_io_121 (by decide) ?_
            exact ed_rI B hr hA hP hD hS (vP hF) d_Mod_io_122
          · have hF := vIt c45 hF
            refine lv_iconst (v := 1) hx hb d_Mod_io_117 (by decide) ?_
            refine lv_goto (tgt := 122) hx hb d_Mod_io_118 (by decide) ?_
            exact ed_rI B hr hA hP hD hS (vP hF) d_Mod_io_122
      have hF := vIf c35 hF
      rcases Decidable.em (x2 = 6) with c46 | c46
      · have hF := vIt c46 hF
        refine lv_tableIn (off := 101) (tgt := 123) hx hb d_Mod_io_22 (by rw [c46]; decide) (by rw [c46]; decide) (by rw [c46]; rfl) (by decide) ?_
        refine lv_aload_n hx hb d_Mod_io_123 rfl (lv_at hl 0 rfl) ?_
        refine gf_Mod_tAgain B hP (by decide) L_Mod_128 d_Mod_io_124 ?_
        refine lv_iload_n hx hb d_Mod_io_127 rfl (lv_at hl 1 rfl) ?_
        obtain ⟨j47, ej48, hj49, hn50, hF⟩ := vG_some hF
        refine il_MtAgain B hP (by decide) hn50 ej48 d_Mod_io_128 ?_
        refine lv_if_eq (tgt := 136) hx hb d_Mod_io_129 (by decide) (fun c51 => ?_) (fun c51 => ?_)
        · have hF := vIt c51 hF
          refine lv_iconst (v := 0) hx hb d_Mod_io_136 (by decide) ?_
          exact ed_rI B hr hA hP hD hS (vP hF) d_Mod_io_137
        · have hF := vIf c51 hF
          refine lv_iconst (v := 1) hx hb d_Mod_io_132 (by decide) ?_
          refine lv_goto (tgt := 137) hx hb d_Mod_io_133 (by decide) ?_
          exact ed_rI B hr hA hP hD hS (vP hF) d_Mod_io_137
      have hF := vIf c46 hF
      refine lv_tableOut (tgt := 138) hx hb d_Mod_io_22 (by have qc10 := lv_neT (a := 0) c10 (by decide); have qc15 := lv_neT (a := 1) c15 (by decide); have qc20 := lv_neT (a := 2) c20 (by decide); have qc25 := lv_neT (a := 3) c25 (by decide); have qc30 := lv_neT (a := 4) c30 (by decide); have qc35 := lv_neT (a := 5) c35 (by decide); have qc46 := lv_neT (a := 6) c46 (by decide); omega) (by decide) ?_
      refine lv_iconst (v := (-1)) hx hb d_Mod_io_138 (by decide) ?_
      exact ed_rI B hr hA hP hD hS (vP hF) d_Mod_io_139
    · have hF := vIf c9 hF
      refine lv_iconst (v := (-1)) hx hb d_Mod_io_19 (by decide) ?_
      exact ed_rI B hr hA hP hD hS (vP hF) d_Mod_io_20
set_option maxHeartbeats 4000000 in
set_option maxRecDepth 100000 in
theorem C_Mod_io (l : Launch) (D : va_G) (ad : Nat → Nat) (ca : Nat → ClassId) (x1 : Int32) (x2 : Int32) (σ : ed_S) (r : Int32) (σ' : ed_S) (hF : F_Mod_io x1 x2 σ = some (r, σ')) : ed_MI l y_Mod_io ws_Mod_io rm_Mod_io D ca (md_w ad ca) [.ref (ad (pMod 0)), .int x1, .int x2] σ r σ' := by
  refine ed_metI (cc := prog_10_method_49_code) (own := "ExecutiveDeskModel") (nL := 3) (ret := (some .int)) (by decide) rfl rfl (Nat.le_of_ble_eq_true rfl) ?_
  intro p e s m args below meth c A B hr hA
  exact T_Mod_io B hr hA x1 x2 σ  hF
abbrev ws_Mod_handle : List Cond := Cond.code y_Mod_handle prog_10_method_50_code 4 (some .int) :: ed_tb
abbrev rm_Mod_handle : Room := { frames := 1, cells := 0, slots := 0, locals := 22 }
def F_Mod_handle (x1 : Int32) (x2 : Int32) (x3 : Int32) (σ : ed_S) : Option (Int32 × ed_S) := (vB2 (F_Mod_is x1 0 ((σ 42 0 0) - 1) σ) fun r3 σ1 => (if r3 = 0 then (some ((-1), σ1)) else (vB2 (F_Mod_is x2 0 7 σ1) fun r7 σ5 => (if r7 = 0 then (some ((-1), σ5)) else (vG ((8 * x1) + x2) 32 fun j9 => (if (σ5 3 0 j9) < 0 then (some ((-1), σ5)) else (vB2 (F_Mod_is x3 0 1 σ5) fun r16 σ14 => (if r16 = 0 then (some ((-1), σ14)) else (if x3 = 0 then (vG ((8 * x1) + x2) 32 fun j23 => (some ((σ14 3 0 j23), σ14))) else (vG ((8 * x1) + x2) 32 fun j19 => (some ((σ14 4 0 j19), σ14))))))))))))
set_option maxHeartbeats 4000000 in
set_option maxRecDepth 100000 in
theorem T_Mod_handle {r : Int32} {σ' : ed_S} (B : ed_B p s m args meth c prog_10_method_50_code "ExecutiveDeskModel" 4 D ca) (hr : meth.sig.returnType = (some .int)) (hA : ∀ q : Nat, s.heap.size ≤ q → A q) : ∀ (x1 : Int32) (x2 : Int32) (x3 : Int32) (σ : ed_S), F_Mod_handle  x1 x2 x3 σ = some (r, σ') → ed_G p l e rm_Mod_handle s m args below meth c D ca (md_w ad ca) A (ed_QI D ca (md_w ad ca) A below args s r σ') 4 0 [(0, .ref (ad (pMod 0))), (1, .int x1), (2, .int x2), (3, .int x3)] [] σ := by
  have hx := B.1
  have hb := B.2.1
  intro x1 x2 x3 σ  hF H locs ls hP hD hS hl
  have hF : (vB2 (F_Mod_is x1 0 ((σ 42 0 0) - 1) σ) fun r3 σ1 => (if r3 = 0 then (some ((-1), σ1)) else (vB2 (F_Mod_is x2 0 7 σ1) fun r7 σ5 => (if r7 = 0 then (some ((-1), σ5)) else (vG ((8 * x1) + x2) 32 fun j9 => (if (σ5 3 0 j9) < 0 then (some ((-1), σ5)) else (vB2 (F_Mod_is x3 0 1 σ5) fun r16 σ14 => (if r16 = 0 then (some ((-1), σ14)) else (if x3 = 0 then (vG ((8 * x1) + x2) 32 fun j23 => (some ((σ14 3 0 j23), σ14))) else (vG ((8 * x1) + x2) 32 fun j19 => (some ((σ14 4 0 j19), σ14)))))))))))) = some (r, σ') := hF
  refine lv_iload_n hx hb d_Mod_handle_0 rfl (lv_at hl 1 rfl) ?_
  refine lv_iconst (v := 0) hx hb d_Mod_handle_1 (by decide) ?_
  refine lv_aload_n hx hb d_Mod_handle_2 rfl (lv_at hl 0 rfl) ?_
  refine gf_Mod_processes B hP (by decide) L_Mod_161 d_Mod_handle_3 ?_
  refine lv_iconst (v := 1) hx hb d_Mod_handle_6 (by decide) ?_
  refine lv_isub hx hb d_Mod_handle_7 ?_
  obtain ⟨r3, σ1, q2, hF⟩ := vB2_some hF
  refine ed_csI (As := [.int x1, .int 0, .int ((σ 42 0 0) - 1)]) (rest := []) B hP hD hS hA (C_Mod_is l D ad ca x1 0 ((σ 42 0 0) - 1) σ r3 σ1  q2) me_Mod_is st_Mod_is L_Mod_157 ⟨rfl, rfl⟩ ⟨Nat.le_of_ble_eq_true rfl, Nat.le_of_ble_eq_true rfl⟩ rfl rfl hl.1 (lv_room (Nat.le_of_ble_eq_true rfl)) d_Mod_handle_8 (fun H locs hP hD hS => ?_)
  refine lv_if_eq (tgt := 47) hx hb d_Mod_handle_11 (by decide) (fun c4 => ?_) (fun c4 => ?_)
  · have hF := vIt c4 hF
    refine lv_iconst (v := (-1)) hx hb d_Mod_handle_47 (by decide) ?_
    exact ed_rI B hr hA hP hD hS (vP hF) d_Mod_handle_48
  · have hF := vIf c4 hF
    refine lv_iload_n hx hb d_Mod_handle_14 rfl (lv_at hl 2 rfl) ?_
    refine lv_iconst (v := 0) hx hb d_Mod_handle_15 (by decide) ?_
    refine lv_bipush (v := 7) hx hb d_Mod_handle_16 (by decide) ?_
    obtain ⟨r7, σ5, q6, hF⟩ := vB2_some hF
    refine ed_csI (As := [.int x2, .int 0, .int 7]) (rest := []) B hP hD hS hA (C_Mod_is l D ad ca x2 0 7 σ1 r7 σ5  q6) me_Mod_is st_Mod_is L_Mod_157 ⟨rfl, rfl⟩ ⟨Nat.le_of_ble_eq_true rfl, Nat.le_of_ble_eq_true rfl⟩ rfl rfl hl.1 (lv_room (Nat.le_of_ble_eq_true rfl)) d_Mod_handle_18 (fun H locs hP hD hS => ?_)
    refine lv_if_eq (tgt := 47) hx hb d_Mod_handle_21 (by decide) (fun c8 => ?_) (fun c8 => ?_)
    · have hF := vIt c8 hF
      refine lv_iconst (v := (-1)) hx hb d_Mod_handle_47 (by decide) ?_
      exact ed_rI B hr hA hP hD hS (vP hF) d_Mod_handle_48
    · have hF := vIf c8 hF
      refine lv_aload_n hx hb d_Mod_handle_24 rfl (lv_at hl 0 rfl) ?_
      refine gf_Mod_handleObject B hP (by decide) L_Mod_19 d_Mod_handle_25 ?_
      refine lv_bipush (v := 8) hx hb d_Mod_handle_28 (by decide) ?_
      refine lv_iload_n hx hb d_Mod_handle_30 rfl (lv_at hl 1 rfl) ?_
      refine lv_imul hx hb d_Mod_handle_31 ?_
      refine lv_iload_n hx hb d_Mod_handle_32 rfl (lv_at hl 2 rfl) ?_
      refine lv_iadd hx hb d_Mod_handle_33 ?_
      obtain ⟨j9, ej10, hj11, hn12, hF⟩ := vG_some hF
      refine il_MhandleObject B hP (by decide) hn12 ej10 d_Mod_handle_34 ?_
      refine lv_if_lt (tgt := 47) hx hb d_Mod_handle_35 (by decide) (fun c13 => ?_) (fun c13 => ?_)
      · have hF := vIt c13 hF
        refine lv_iconst (v := (-1)) hx hb d_Mod_handle_47 (by decide) ?_
        exact ed_rI B hr hA hP hD hS (vP hF) d_Mod_handle_48
      · have hF := vIf c13 hF
        refine lv_iload_n hx hb d_Mod_handle_38 rfl (lv_at hl 3 rfl) ?_
        refine lv_iconst (v := 0) hx hb d_Mod_handle_39 (by decide) ?_
        refine lv_iconst (v := 1) hx hb d_Mod_handle_40 (by decide) ?_
        obtain ⟨r16, σ14, q15, hF⟩ := vB2_some hF
        refine ed_csI (As := [.int x3, .int 0, .int 1]) (rest := []) B hP hD hS hA (C_Mod_is l D ad ca x3 0 1 σ5 r16 σ14  q15) me_Mod_is st_Mod_is L_Mod_157 ⟨rfl, rfl⟩ ⟨Nat.le_of_ble_eq_true rfl, Nat.le_of_ble_eq_true rfl⟩ rfl rfl hl.1 (lv_room (Nat.le_of_ble_eq_true rfl)) d_Mod_handle_41 (fun H locs hP hD hS => ?_)
        refine lv_if_ne (tgt := 49) hx hb d_Mod_handle_44 (by decide) (fun c17 => ?_) (fun c17 => ?_)
        · have hF := vIf c17 hF
          refine lv_iload_n hx hb d_Mod_handle_49 rfl (lv_at hl 3 rfl) ?_
          refine lv_if_ne (tgt := 67) hx hb d_Mod_handle_50 (by decide) (fun c18 => ?_) (fun c18 => ?_)
          · have hF := vIf c18 hF
            refine lv_aload_n hx hb d_Mod_handle_67 rfl (lv_at hl 0 rfl) ?_
            refine gf_Mod_handleRights B hP (by decide) L_Mod_22 d_Mod_handle_68 ?_
            refine lv_bipush (v := 8) hx hb d_Mod_handle_71 (by decide) ?_
            refine lv_iload_n hx hb d_Mod_handle_73 rfl (lv_at hl 1 rfl) ?_
            refine lv_imul hx hb d_Mod_handle_74 ?_
            refine lv_iload_n hx hb d_Mod_handle_75 rfl (lv_at hl 2 rfl) ?_
            refine lv_iadd hx hb d_Mod_handle_76 ?_
            obtain ⟨j19, ej20, hj21, hn22, hF⟩ := vG_some hF
            refine il_MhandleRights B hP (by decide) hn22 ej20 d_Mod_handle_77 ?_
            exact ed_rI B hr hA hP hD hS (vP hF) d_Mod_handle_78
          · have hF := vIt c18 hF
            refine lv_aload_n hx hb d_Mod_handle_53 rfl (lv_at hl 0 rfl) ?_
            refine gf_Mod_handleObject B hP (by decide) L_Mod_19 d_Mod_handle_54 ?_
            refine lv_bipush (v := 8) hx hb d_Mod_handle_57 (by decide) ?_
            refine lv_iload_n hx hb d_Mod_handle_59 rfl (lv_at hl 1 rfl) ?_
            refine lv_imul hx hb d_Mod_handle_60 ?_
            refine lv_iload_n hx hb d_Mod_handle_61 rfl (lv_at hl 2 rfl) ?_
            refine lv_iadd hx hb d_Mod_handle_62 ?_
            obtain ⟨j23, ej24, hj25, hn26, hF⟩ := vG_some hF
            refine il_MhandleObject B hP (by decide) hn26 ej24 d_Mod_handle_63 ?_
            refine lv_goto (tgt := 78) hx hb d_Mod_handle_64 (by decide) ?_
            exact ed_rI B hr hA hP hD hS (vP hF) d_Mod_handle_78
        · have hF := vIt c17 hF
          refine lv_iconst (v := (-1)) hx hb d_Mod_handle_47 (by decide) ?_
          exact ed_rI B hr hA hP hD hS (vP hF) d_Mod_handle_48
set_option maxHeartbeats 4000000 in
set_option maxRecDepth 100000 in
theorem C_Mod_handle (l : Launch) (D : va_G) (ad : Nat → Nat) (ca : Nat → ClassId) (x1 : Int32) (x2 : Int32) (x3 : Int32) (σ : ed_S) (r : Int32) (σ' : ed_S) (hF : F_Mod_handle x1 x2 x3 σ = some (r, σ')) : ed_MI l y_Mod_handle ws_Mod_handle rm_Mod_handle D ca (md_w ad ca) [.ref (ad (pMod 0)), .int x1, .int x2, .int x3] σ r σ' := by
  refine ed_metI (cc := prog_10_method_50_code) (own := "ExecutiveDeskModel") (nL := 4) (ret := (some .int)) (by decide) rfl rfl (Nat.le_of_ble_eq_true rfl) ?_
  intro p e s m args below meth c A B hr hA
  exact T_Mod_handle B hr hA x1 x2 x3 σ  hF
abbrev ws_Mod_count : List Cond := Cond.code y_Mod_count prog_10_method_51_code 4 (some .int) :: ed_tb
abbrev rm_Mod_count : Room := { frames := 0, cells := 0, slots := 0, locals := 0 }
def F_Mod_count_79 : Nat → Int32 → Int32 → Int32 → ed_S → Option (Int32 × ed_S)
  | 0, _, _, _, _ => none
  | n + 1, x1, x2, x3, σ => (if 16 ≤ x3 then (some (x2, σ)) else (vG x3 16 fun j2 => (if (σ 19 0 j2) = 0 then ((F_Mod_count_79  n) x1 x2 (x3 + 1) σ) else ((F_Mod_count_79  n) x1 (x2 + 1) (x3 + 1) σ))))
def F_Mod_count (x1 : Int32) (σ : ed_S) : Option (Int32 × ed_S) := (if x1 = 0 then (some ((σ 44 0 0), σ)) else (if x1 = 1 then (some ((σ 46 0 0), σ)) else (if x1 = 2 then (some ((σ 47 0 0), σ)) else (if x1 = 3 then (some ((σ 42 0 0), σ)) else (if x1 = 4 then (some ((σ 43 0 0), σ)) else (if x1 = 5 then (F_Mod_count_79  ed_fu x1 0 0 σ) else (if x1 = 6 then (some ((σ 48 0 0), σ)) else (if x1 = 7 then (some ((σ 49 0 0), σ)) else (if x1 = 8 then (some ((σ 50 0 0), σ)) else (some ((-1), σ)))))))))))
set_option maxHeartbeats 4000000 in
set_option maxRecDepth 100000 in
theorem T_Mod_count_79 {r : Int32} {σ' : ed_S} (B : ed_B p s m args meth c prog_10_method_51_code "ExecutiveDeskModel" 4 D ca) (hr : meth.sig.returnType = (some .int)) (hA : ∀ q : Nat, s.heap.size ≤ q → A q) : ∀ (n : Nat) (x1 : Int32) (x2 : Int32) (x3 : Int32) (σ : ed_S), F_Mod_count_79  n x1 x2 x3 σ = some (r, σ') → ed_G p l e rm_Mod_count s m args below meth c D ca (md_w ad ca) A (ed_QI D ca (md_w ad ca) A below args s r σ') 4 79 [(0, .ref (ad (pMod 0))), (1, .int x1), (2, .int x2), (3, .int x3)] [] σ := by
  have hx := B.1
  have hb := B.2.1
  intro n
  induction n with
  | zero => intro x1 x2 x3 σ  hF; exact absurd hF (by intro h; cases h)
  | succ n kk79 =>
    intro x1 x2 x3 σ  hF H locs ls hP hD hS hl
    have hF : (if 16 ≤ x3 then (some (x2, σ)) else (vG x3 16 fun j2 => (if (σ 19 0 j2) = 0 then ((F_Mod_count_79  n) x1 x2 (x3 + 1) σ) else ((F_Mod_count_79  n) x1 (x2 + 1) (x3 + 1) σ)))) = some (r, σ') := hF
    refine lv_iload_n hx hb d_Mod_count_79 rfl (lv_at hl 3 rfl) ?_
    refine lv_bipush (v := 16) hx hb d_Mod_count_80 (by decide) ?_
    refine lv_icmp_ge (tgt := 103) hx hb d_Mod_count_82 (by decide) (fun c1 => ?_) (fun c1 => ?_)
    · have hF := vIt c1 hF
      refine lv_iload_n hx hb d_Mod_count_103 rfl (lv_at hl 2 rfl) ?_
      exact ed_rI B hr hA hP hD hS (vP hF) d_Mod_count_104
    · have hF := vIf c1 hF
      refine lv_aload_n hx hb d_Mod_count_85 rfl (lv_at hl 0 rfl) ?_
      refine gf_Mod_there B hP (by decide) L_Mod_67 d_Mod_count_86 ?_
      refine lv_iload_n hx hb d_Mod_count_89 rfl (lv_at hl 3 rfl) ?_
      obtain ⟨j2, ej3, hj4, hn5, hF⟩ := vG_some hF
      refine il_Mthere B hP (by decide) hn5 ej3 d_Mod_count_90 ?_
      refine lv_if_eq (tgt := 97) hx hb d_Mod_count_91 (by decide) (fun c6 => ?_) (fun c6 => ?_)
      · have hF := vIt c6 hF
        refine lv_iinc (v := (x3 + 1)) (lv' := [(3, .int (x3 + 1)), (0, .ref (ad (pMod 0))), (1, .int x1), (2, .int x2)]) hx hb d_Mod_count_97 hl (k := 3) rfl rfl (by decide) rfl (fun ls hl => ?_)
        refine lv_goto (tgt := 79) hx hb d_Mod_count_100 (by decide) ?_
        exact kk79 x1 x2 (x3 + 1) σ  hF _ _ _ hP hD hS (lv_sub hl [1, 2, 3, 0] rfl)
      · have hF := vIf c6 hF
        refine lv_iinc (v := (x2 + 1)) (lv' := [(2, .int (x2 + 1)), (0, .ref (ad (pMod 0))), (1, .int x1), (3, .int x3)]) hx hb d_Mod_count_94 hl (k := 2) rfl rfl (by decide) rfl (fun ls hl => ?_)
        refine lv_iinc (v := (x3 + 1)) (lv' := [(3, .int (x3 + 1)), (2, .int (x2 + 1)), (0, .ref (ad (pMod 0))), (1, .int x1)]) hx hb d_Mod_count_97 hl (k := 3) rfl rfl (by decide) rfl (fun ls hl => ?_)
        refine lv_goto (tgt := 79) hx hb d_Mod_count_100 (by decide) ?_
        exact kk79 x1 (x2 + 1) (x3 + 1) σ  hF _ _ _ hP hD hS (lv_sub hl [2, 3, 1, 0] rfl)
set_option maxHeartbeats 4000000 in
set_option maxRecDepth 100000 in
theorem T_Mod_count {r : Int32} {σ' : ed_S} (B : ed_B p s m args meth c prog_10_method_51_code "ExecutiveDeskModel" 4 D ca) (hr : meth.sig.returnType = (some .int)) (hA : ∀ q : Nat, s.heap.size ≤ q → A q) : ∀ (x1 : Int32) (σ : ed_S), F_Mod_count  x1 σ = some (r, σ') → ed_G p l e rm_Mod_count s m args below meth c D ca (md_w ad ca) A (ed_QI D ca (md_w ad ca) A below args s r σ') 4 0 [(0, .ref (ad (pMod 0))), (1, .int x1)] [] σ := by
  have hx := B.1
  have hb := B.2.1
  intro x1 σ  hF H locs ls hP hD hS hl
  have hF : (if x1 = 0 then (some ((σ 44 0 0), σ)) else (if x1 = 1 then (some ((σ 46 0 0), σ)) else (if x1 = 2 then (some ((σ 47 0 0), σ)) else (if x1 = 3 then (some ((σ 42 0 0), σ)) else (if x1 = 4 then (some ((σ 43 0 0), σ)) else (if x1 = 5 then (F_Mod_count_79  ed_fu x1 0 0 σ) else (if x1 = 6 then (some ((σ 48 0 0), σ)) else (if x1 = 7 then (some ((σ 49 0 0), σ)) else (if x1 = 8 then (some ((σ 50 0 0), σ)) else (some ((-1), σ))))))))))) = some (r, σ') := hF
  refine lv_iconst (v := 0) hx hb d_Mod_count_0 (by decide) ?_
  refine lv_istore_n (lv' := [(2, .int 0), (0, .ref (ad (pMod 0))), (1, .int x1)]) hx hb d_Mod_count_1 rfl hl (by decide) rfl (fun ls hl => ?_)
  refine lv_iload_n hx hb d_Mod_count_2 rfl (lv_at hl 2 rfl) ?_
  rcases Decidable.em (x1 = 0) with c1 | c1
  · have hF := vIt c1 hF
    refine lv_tableIn (off := 49) (tgt := 52) hx hb d_Mod_count_3 (by rw [c1]; decide) (by rw [c1]; decide) (by rw [c1]; rfl) (by decide) ?_
    refine lv_aload_n hx hb d_Mod_count_52 rfl (lv_at hl 1 rfl) ?_
    refine gf_Mod_running B hP (by decide) L_Mod_137 d_Mod_count_53 ?_
    exact ed_rI B hr hA hP hD hS (vP hF) d_Mod_count_56
  have hF := vIf c1 hF
  rcases Decidable.em (x1 = 1) with c2 | c2
  · have hF := vIt c2 hF
    refine lv_tableIn (off := 54) (tgt := 57) hx hb d_Mod_count_3 (by rw [c2]; decide) (by rw [c2]; decide) (by rw [c2]; rfl) (by decide) ?_
    refine lv_aload_n hx hb d_Mod_count_57 rfl (lv_at hl 1 rfl) ?_
    refine gf_Mod_clock B hP (by decide) L_Mod_230 d_Mod_count_58 ?_
    exact ed_rI B hr hA hP hD hS (vP hF) d_Mod_count_61
  have hF := vIf c2 hF
  rcases Decidable.em (x1 = 2) with c3 | c3
  · have hF := vIt c3 hF
    refine lv_tableIn (off := 59) (tgt := 62) hx hb d_Mod_count_3 (by rw [c3]; decide) (by rw [c3]; decide) (by rw [c3]; rfl) (by decide) ?_
    refine lv_aload_n hx hb d_Mod_count_62 rfl (lv_at hl 1 rfl) ?_
    refine gf_Mod_level B hP (by decide) L_Mod_177 d_Mod_count_63 ?_
    exact ed_rI B hr hA hP hD hS (vP hF) d_Mod_count_66
  have hF := vIf c3 hF
  rcases Decidable.em (x1 = 3) with c4 | c4
  · have hF := vIt c4 hF
    refine lv_tableIn (off := 64) (tgt := 67) hx hb d_Mod_count_3 (by rw [c4]; decide) (by rw [c4]; decide) (by rw [c4]; rfl) (by decide) ?_
    refine lv_aload_n hx hb d_Mod_count_67 rfl (lv_at hl 1 rfl) ?_
    refine gf_Mod_processes B hP (by decide) L_Mod_161 d_Mod_count_68 ?_
    exact ed_rI B hr hA hP hD hS (vP hF) d_Mod_count_71
  have hF := vIf c4 hF
  rcases Decidable.em (x1 = 4) with c5 | c5
  · have hF := vIt c5 hF
    refine lv_tableIn (off := 69) (tgt := 72) hx hb d_Mod_count_3 (by rw [c5]; decide) (by rw [c5]; decide) (by rw [c5]; rfl) (by decide) ?_
    refine lv_aload_n hx hb d_Mod_count_72 rfl (lv_at hl 1 rfl) ?_
    refine gf_Mod_threads B hP (by decide) L_Mod_144 d_Mod_count_73 ?_
    exact ed_rI B hr hA hP hD hS (vP hF) d_Mod_count_76
  have hF := vIf c5 hF
  rcases Decidable.em (x1 = 5) with c6 | c6
  · have hF := vIt c6 hF
    refine lv_tableIn (off := 74) (tgt := 77) hx hb d_Mod_count_3 (by rw [c6]; decide) (by rw [c6]; decide) (by rw [c6]; rfl) (by decide) ?_
    refine lv_iconst (v := 0) hx hb d_Mod_count_77 (by decide) ?_
    refine lv_istore_n (lv' := [(3, .int 0), (2, .int 0), (0, .ref (ad (pMod 0))), (1, .int x1)]) hx hb d_Mod_count_78 rfl hl (by decide) rfl (fun ls hl => ?_)
    exact T_Mod_count_79 B hr hA  ed_fu x1 0 0 σ  hF _ _ _ hP hD hS (lv_sub hl [2, 3, 1, 0] rfl)
  have hF := vIf c6 hF
  rcases Decidable.em (x1 = 6) with c7 | c7
  · have hF := vIt c7 hF
    refine lv_tableIn (off := 102) (tgt := 105) hx hb d_Mod_count_3 (by rw [c7]; decide) (by rw [c7]; decide) (by rw [c7]; rfl) (by decide) ?_
    refine lv_aload_n hx hb d_Mod_count_105 rfl (lv_at hl 1 rfl) ?_
    refine gf_Mod_interrupts B hP (by decide) L_Mod_147 d_Mod_count_106 ?_
    exact ed_rI B hr hA hP hD hS (vP hF) d_Mod_count_109
  have hF := vIf c7 hF
  rcases Decidable.em (x1 = 7) with c8 | c8
  · have hF := vIt c8 hF
    refine lv_tableIn (off := 107) (tgt := 110) hx hb d_Mod_count_3 (by rw [c8]; decide) (by rw [c8]; decide) (by rw [c8]; rfl) (by decide) ?_
    refine lv_aload_n hx hb d_Mod_count_110 rfl (lv_at hl 1 rfl) ?_
    refine gf_Mod_switches B hP (by decide) L_Mod_174 d_Mod_count_111 ?_
    exact ed_rI B hr hA hP hD hS (vP hF) d_Mod_count_114
  have hF := vIf c8 hF
  rcases Decidable.em (x1 = 8) with c9 | c9
  · have hF := vIt c9 hF
    refine lv_tableIn (off := 112) (tgt := 115) hx hb d_Mod_count_3 (by rw [c9]; decide) (by rw [c9]; decide) (by rw [c9]; rfl) (by decide) ?_
    refine lv_aload_n hx hb d_Mod_count_115 rfl (lv_at hl 1 rfl) ?_
    refine gf_Mod_overs B hP (by decide) L_Mod_250 d_Mod_count_116 ?_
    exact ed_rI B hr hA hP hD hS (vP hF) d_Mod_count_119
  have hF := vIf c9 hF
  refine lv_tableOut (tgt := 120) hx hb d_Mod_count_3 (by have qc1 := lv_neT (a := 0) c1 (by decide); have qc2 := lv_neT (a := 1) c2 (by decide); have qc3 := lv_neT (a := 2) c3 (by decide); have qc4 := lv_neT (a := 3) c4 (by decide); have qc5 := lv_neT (a := 4) c5 (by decide); have qc6 := lv_neT (a := 5) c6 (by decide); have qc7 := lv_neT (a := 6) c7 (by decide); have qc8 := lv_neT (a := 7) c8 (by decide); have qc9 := lv_neT (a := 8) c9 (by decide); omega) (by decide) ?_
  refine lv_iconst (v := (-1)) hx hb d_Mod_count_120 (by decide) ?_
  exact ed_rI B hr hA hP hD hS (vP hF) d_Mod_count_121
set_option maxHeartbeats 4000000 in
set_option maxRecDepth 100000 in
theorem C_Mod_count (l : Launch) (D : va_G) (ad : Nat → Nat) (ca : Nat → ClassId) (x1 : Int32) (σ : ed_S) (r : Int32) (σ' : ed_S) (hF : F_Mod_count x1 σ = some (r, σ')) : ed_MI l y_Mod_count ws_Mod_count rm_Mod_count D ca (md_w ad ca) [.ref (ad (pMod 0)), .int x1] σ r σ' := by
  refine ed_metI (cc := prog_10_method_51_code) (own := "ExecutiveDeskModel") (nL := 4) (ret := (some .int)) (by decide) rfl rfl (Nat.le_of_ble_eq_true rfl) ?_
  intro p e s m args below meth c A B hr hA
  exact T_Mod_count B hr hA x1 σ  hF
end EDT
