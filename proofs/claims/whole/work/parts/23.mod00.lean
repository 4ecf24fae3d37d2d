section EDT
variable {p : Program} {l : Launch} {e : Env} {s : State} {m : MethodId} {args : Array Value} {below : List Frame} {meth : Method} {c : Code} {D : va_G} {ad : Nat → Nat} {ca : Nat → ClassId} {A : Nat → Prop}
abbrev ws_Mod_is : List Cond := Cond.code y_Mod_is prog_10_method_2_code 3 (some .boolean) :: ed_tb
abbrev rm_Mod_is : Room := { frames := 0, cells := 0, slots := 0, locals := 0 }
def F_Mod_is (x0 : Int32) (x1 : Int32) (x2 : Int32) (σ : ed_S) : Option (Int32 × ed_S) := (if x0 < x1 then (some (0, σ)) else (if x2 < x0 then (some (0, σ)) else (some (1, σ))))
set_option maxHeartbeats 4000000 in
set_option maxRecDepth 100000 in
theorem T_Mod_is {r : Int32} {σ' : ed_S} (B : ed_B p s m args meth c prog_10_method_2_code "ExecutiveDeskModel" 3 D ca) (hr : meth.sig.returnType = (some .boolean)) (hA : ∀ q : Nat, s.heap.size ≤ q → A q) : ∀ (x0 : Int32) (x1 : Int32) (x2 : Int32) (σ : ed_S), F_Mod_is  x0 x1 x2 σ = some (r, σ') → ed_G p l e rm_Mod_is s m args below meth c D ca (md_w ad ca) A (ed_QI D ca (md_w ad ca) A below args s r σ') 3 0 [(0, .int x0), (1, .int x1), (2, .int x2)] [] σ := by
  have hx := B.1
  have hb := B.2.1
  intro x0 x1 x2 σ  hF H locs ls hP hD hS hl
  have hF : (if x0 < x1 then (some (0, σ)) else (if x2 < x0 then (some (0, σ)) else (some (1, σ)))) = some (r, σ') := hF
  refine lv_iload_n hx hb d_Mod_is_0 rfl (lv_at hl 0 rfl) ?_
  refine lv_iload_n hx hb d_Mod_is_1 rfl (lv_at hl 1 rfl) ?_
  refine lv_icmp_lt (tgt := 14) hx hb d_Mod_is_2 (by decide) (fun c1 => ?_) (fun c1 => ?_)
  · have hF := vIt c1 hF
    refine lv_iconst (v := 0) hx hb d_Mod_is_14 (by decide) ?_
    exact ed_rZ B hr hA hP hD hS (by decide) (vP hF) d_Mod_is_15
  · have hF := vIf c1 hF
    refine lv_iload_n hx hb d_Mod_is_5 rfl (lv_at hl 0 rfl) ?_
    refine lv_iload_n hx hb d_Mod_is_6 rfl (lv_at hl 2 rfl) ?_
    refine lv_icmp_gt (tgt := 14) hx hb d_Mod_is_7 (by decide) (fun c2 => ?_) (fun c2 => ?_)
    · have hF := vIt c2 hF
      refine lv_iconst (v := 0) hx hb d_Mod_is_14 (by decide) ?_
      exact ed_rZ B hr hA hP hD hS (by decide) (vP hF) d_Mod_is_15
    · have hF := vIf c2 hF
      refine lv_iconst (v := 1) hx hb d_Mod_is_10 (by decide) ?_
      refine lv_goto (tgt := 15) hx hb d_Mod_is_11 (by decide) ?_
      exact ed_rZ B hr hA hP hD hS (by decide) (vP hF) d_Mod_is_15
set_option maxHeartbeats 4000000 in
set_option maxRecDepth 100000 in
theorem C_Mod_is (l : Launch) (D : va_G) (ad : Nat → Nat) (ca : Nat → ClassId) (x0 : Int32) (x1 : Int32) (x2 : Int32) (σ : ed_S) (r : Int32) (σ' : ed_S) (hF : F_Mod_is x0 x1 x2 σ = some (r, σ')) : ed_MI l y_Mod_is ws_Mod_is rm_Mod_is D ca (md_w ad ca) [.int x0, .int x1, .int x2] σ r σ' := by
  refine ed_metI (cc := prog_10_method_2_code) (own := "ExecutiveDeskModel") (nL := 3) (ret := (some .boolean)) (by decide) rfl rfl (Nat.le_of_ble_eq_true rfl) ?_
  intro p e s m args below meth c A B hr hA
  exact T_Mod_is B hr hA x0 x1 x2 σ  hF
abbrev ws_Mod_handles : List Cond := Cond.code y_Mod_handles prog_10_method_3_code 4 (some .int) :: ed_tb
abbrev rm_Mod_handles : Room := { frames := 0, cells := 0, slots := 0, locals := 0 }
def F_Mod_handles_4 : Nat → Int32 → Int32 → Int32 → ed_S → Option (Int32 × ed_S)
  | 0, _, _, _, _ => none
  | n + 1, x1, x2, x3, σ => (if 32 ≤ x3 then (some (x2, σ)) else (vG x3 32 fun j2 => (if (σ 3 0 j2) = x1 then ((F_Mod_handles_4  n) x1 (x2 + 1) (x3 + 1) σ) else ((F_Mod_handles_4  n) x1 x2 (x3 + 1) σ))))
def F_Mod_handles (x1 : Int32) (σ : ed_S) : Option (Int32 × ed_S) := (F_Mod_handles_4  ed_fu x1 0 0 σ)
set_option maxHeartbeats 4000000 in
set_option maxRecDepth 100000 in
theorem T_Mod_handles_4 {r : Int32} {σ' : ed_S} (B : ed_B p s m args meth c prog_10_method_3_code "ExecutiveDeskModel" 4 D ca) (hr : meth.sig.returnType = (some .int)) (hA : ∀ q : Nat, s.heap.size ≤ q → A q) : ∀ (n : Nat) (x1 : Int32) (x2 : Int32) (x3 : Int32) (σ : ed_S), F_Mod_handles_4  n x1 x2 x3 σ = some (r, σ') → ed_G p l e rm_Mod_handles s m args below meth c D ca (md_w ad ca) A (ed_QI D ca (md_w ad ca) A below args s r σ') 4 4 [(0, .ref (ad (pMod 0))), (1, .int x1), (2, .int x2), (3, .int x3)] [] σ := by
  have hx := B.1
  have hb := B.2.1
  intro n
  induction n with
  | zero => intro x1 x2 x3 σ  hF; exact absurd hF (by intro h; cases h)
  | succ n kk4 =>
    intro x1 x2 x3 σ  hF H locs ls hP hD hS hl
    have hF : (if 32 ≤ x3 then (some (x2, σ)) else (vG x3 32 fun j2 => (if (σ 3 0 j2) = x1 then ((F_Mod_handles_4  n) x1 (x2 + 1) (x3 + 1) σ) else ((F_Mod_handles_4  n) x1 x2 (x3 + 1) σ)))) = some (r, σ') := hF
    refine lv_iload_n hx hb d_Mod_handles_4 rfl (lv_at hl 3 rfl) ?_
    refine lv_bipush (v := 32) hx hb d_Mod_handles_5 (by decide) ?_
    refine lv_icmp_ge (tgt := 29) hx hb d_Mod_handles_7 (by decide) (fun c1 => ?_) (fun c1 => ?_)
    · have hF := vIt c1 hF
      refine lv_iload_n hx hb d_Mod_handles_29 rfl (lv_at hl 2 rfl) ?_
      exact ed_rI B hr hA hP hD hS (vP hF) d_Mod_handles_30
    · have hF := vIf c1 hF
      refine lv_aload_n hx hb d_Mod_handles_10 rfl (lv_at hl 0 rfl) ?_
      refine gf_Mod_handleObject B hP (by decide) L_Mod_19 d_Mod_handles_11 ?_
      refine lv_iload_n hx hb d_Mod_handles_14 rfl (lv_at hl 3 rfl) ?_
      obtain ⟨j2, ej3, hj4, hn5, hF⟩ := vG_some hF
      refine il_MhandleObject B hP (by decide) hn5 ej3 d_Mod_handles_15 ?_
      refine lv_iload_n hx hb d_Mod_handles_16 rfl (lv_at hl 1 rfl) ?_
      refine lv_icmp_ne (tgt := 23) hx hb d_Mod_handles_17 (by decide) (fun c6 => ?_) (fun c6 => ?_)
      · have hF := vIf c6 hF
        refine lv_iinc (v := (x3 + 1)) (lv' := [(3, .int (x3 + 1)), (0, .ref (ad (pMod 0))), (1, .int x1), (2, .int x2)]) hx hb d_Mod_handles_23 hl (k := 3) rfl rfl (by decide) rfl (fun ls hl => ?_)
        refine lv_goto (tgt := 4) hx hb d_Mod_handles_26 (by decide) ?_
        exact kk4 x1 x2 (x3 + 1) σ  hF _ _ _ hP hD hS (lv_sub hl [1, 2, 3, 0] rfl)
      · have hF := vIt c6 hF
        refine lv_iinc (v := (x2 + 1)) (lv' := [(2, .int (x2 + 1)), (0, .ref (ad (pMod 0))), (1, .int x1), (3, .int x3)]) hx hb d_Mod_handles_20 hl (k := 2) rfl rfl (by decide) rfl (fun ls hl => ?_)
        refine lv_iinc (v := (x3 + 1)) (lv' := [(3, .int (x3 + 1)), (2, .int (x2 + 1)), (0, .ref (ad (pMod 0))), (1, .int x1)]) hx hb d_Mod_handles_23 hl (k := 3) rfl rfl (by decide) rfl (fun ls hl => ?_)
        refine lv_goto (tgt := 4) hx hb d_Mod_handles_26 (by decide) ?_
        exact kk4 x1 (x2 + 1) (x3 + 1) σ  hF _ _ _ hP hD hS (lv_sub hl [2, 3, 1, 0] rfl)
set_option maxHeartbeats 4000000 in
set_option maxRecDepth 100000 in
theorem T_Mod_handles {r : Int32} {σ' : ed_S} (B : ed_B p s m args meth c prog_10_method_3_code "ExecutiveDeskModel" 4 D ca) (hr : meth.sig.returnType = (some .int)) (hA : ∀ q : Nat, s.heap.size ≤ q → A q) : ∀ (x1 : Int32) (σ : ed_S), F_Mod_handles  x1 σ = some (r, σ') → ed_G p l e rm_Mod_handles s m args below meth c D ca (md_w ad ca) A (ed_QI D ca (md_w ad ca) A below args s r σ') 4 0 [(0, .ref (ad (pMod 0))), (1, .int x1)] [] σ := by
  have hx := B.1
  have hb := B.2.1
  intro x1 σ  hF H locs ls hP hD hS hl
  have hF : (F_Mod_handles_4  ed_fu x1 0 0 σ) = some (r, σ') := hF
  refine lv_iconst (v := 0) hx hb d_Mod_handles_0 (by decide) ?_
  refine lv_istore_n (lv' := [(2, .int 0), (0, .ref (ad (pMod 0))), (1, .int x1)]) hx hb d_Mod_handles_1 rfl hl (by decide) rfl (fun ls hl => ?_)
  refine lv_iconst (v := 0) hx hb d_Mod_handles_2 (by decide) ?_
  refine lv_istore_n (lv' := [(3, .int 0), (2, .int 0), (0, .ref (ad (pMod 0))), (1, .int x1)]) hx hb d_Mod_handles_3 rfl hl (by decide) rfl (fun ls hl => ?_)
  exact T_Mod_handles_4 B hr hA  ed_fu x1 0 0 σ  hF _ _ _ hP hD hS (lv_sub hl [2, 3, 1, 0] rfl)
set_option maxHeartbeats 4000000 in
set_option maxRecDepth 100000 in
theorem C_Mod_handles (l : Launch) (D : va_G) (ad : Nat → Nat) (ca : Nat → ClassId) (x1 : Int32) (σ : ed_S) (r : Int32) (σ' : ed_S) (hF : F_Mod_handles x1 σ = some (r, σ')) : ed_MI l y_Mod_handles ws_Mod_handles rm_Mod_handles D ca (md_w ad ca) [.ref (ad (pMod 0)), .int x1] σ r σ' := by
  refine ed_metI (cc := prog_10_method_3_code) (own := "ExecutiveDeskModel") (nL := 4) (ret := (some .int)) (by decide) rfl rfl (Nat.le_of_ble_eq_true rfl) ?_
  intro p e s m args below meth c A B hr hA
  exact T_Mod_handles B hr hA x1 σ  hF
abbrev ws_Mod_pointers : List Cond := Cond.code y_Mod_pointers prog_10_method_4_code 5 (some .int) :: ed_tb
abbrev rm_Mod_pointers : Room := { frames := 0, cells := 0, slots := 0, locals := 0 }
def F_Mod_pointers_120 : Nat → Int32 → Int32 → Int32 → ed_S → Option (Int32 × ed_S)
  | 0, _, _, _, _ => none
  | n + 1, x1, x2, x3, σ => (if (σ 48 0 0) ≤ x3 then (some (x2, σ)) else (vG x3 8 fun j2 => (if (σ 40 0 j2) = x1 then ((F_Mod_pointers_120  n) x1 (x2 + 1) (x3 + 1) σ) else ((F_Mod_pointers_120  n) x1 x2 (x3 + 1) σ))))
def F_Mod_pointers_94 (k63 : Int32 → Int32 → Int32 → ed_S → Option (Int32 × ed_S)) (x1 : Int32) (x2 : Int32) (x3 : Int32) (s0 : Int32) (s1 : Int32) (σ : ed_S) : Option (Int32 × ed_S) := (vG x3 8 fun j1 => (if (σ 36 0 j1) = x1 then (k63 x1 (s1 + (s0 + 1)) (x3 + 1) σ) else (k63 x1 (s1 + (s0 + 0)) (x3 + 1) σ)))
def F_Mod_pointers_63 : Nat → Int32 → Int32 → Int32 → ed_S → Option (Int32 × ed_S)
  | 0, _, _, _, _ => none
  | n + 1, x1, x2, x3, σ => (if 8 ≤ x3 then (F_Mod_pointers_120  ed_fu x1 x2 0 σ) else (vG x3 8 fun j2 => (if (σ 31 0 j2) = 0 then (vG x3 8 fun j7 => (if (σ 34 0 j7) = x1 then (F_Mod_pointers_94 (F_Mod_pointers_63  n) x1 x2 x3 1 x2 σ) else (F_Mod_pointers_94 (F_Mod_pointers_63  n) x1 x2 x3 0 x2 σ))) else ((F_Mod_pointers_63  n) x1 x2 (x3 + 1) σ))))
def F_Mod_pointers_15 (k4 : Int32 → Int32 → Int32 → ed_S → Option (Int32 × ed_S)) : Nat → Int32 → Int32 → Int32 → Int32 → ed_S → Option (Int32 × ed_S)
  | 0, _, _, _, _, _ => none
  | n + 1, x1, x2, x3, x4, σ => (if 3 ≤ x4 then (k4 x1 x2 (x3 + 1) σ) else (vG x3 8 fun j2 => (if (σ 7 0 j2) = 2 then (vG ((3 * x3) + x4) 24 fun j7 => (if (σ 17 0 j7) = x1 then ((F_Mod_pointers_15 k4 n) x1 (x2 + 1) x3 (x4 + 1) σ) else ((F_Mod_pointers_15 k4 n) x1 x2 x3 (x4 + 1) σ))) else ((F_Mod_pointers_15 k4 n) x1 x2 x3 (x4 + 1) σ))))
def F_Mod_pointers_4 : Nat → Int32 → Int32 → Int32 → ed_S → Option (Int32 × ed_S)
  | 0, _, _, _, _ => none
  | n + 1, x1, x2, x3, σ => (if (σ 43 0 0) ≤ x3 then (F_Mod_pointers_63  ed_fu x1 x2 0 σ) else (F_Mod_pointers_15 (F_Mod_pointers_4  n) ed_fu x1 x2 x3 0 σ))
def F_Mod_pointers (x1 : Int32) (σ : ed_S) : Option (Int32 × ed_S) := (F_Mod_pointers_4  ed_fu x1 0 0 σ)
set_option maxHeartbeats 4000000 in
set_option maxRecDepth 100000 in
theorem T_Mod_pointers_120 {r : Int32} {σ' : ed_S} (B : ed_B p s m args meth c prog_10_method_4_code "ExecutiveDeskModel" 5 D ca) (hr : meth.sig.returnType = (some .int)) (hA : ∀ q : Nat, s.heap.size ≤ q → A q) : ∀ (n : Nat) (x1 : Int32) (x2 : Int32) (x3 : Int32) (σ : ed_S), F_Mod_pointers_120  n x1 x2 x3 σ = some (r, σ') → ed_G p l e rm_Mod_pointers s m args below meth c D ca (md_w ad ca) A (ed_QI D ca (md_w ad ca) A below args s r σ') 5 120 [(0, .ref (ad (pMod 0))), (1, .int x1), (2, .int x2), (3, .int x3)] [] σ := by
  have hx := B.1
  have hb := B.2.1
  intro n
  induction n with
  | zero => intro x1 x2 x3 σ  hF; exact absurd hF (by intro h; cases h)
  | succ n kk120 =>
    intro x1 x2 x3 σ  hF H locs ls hP hD hS hl
    have hF : (if (σ 48 0 0) ≤ x3 then (some (x2, σ)) else (vG x3 8 fun j2 => (if (σ 40 0 j2) = x1 then ((F_Mod_pointers_120  n) x1 (x2 + 1) (x3 + 1) σ) else ((F_Mod_pointers_120  n) x1 x2 (x3 + 1) σ)))) = some (r, σ') := hF
    refine lv_iload_n hx hb d_Mod_pointers_120 rfl (lv_at hl 3 rfl) ?_
    refine lv_aload_n hx hb d_Mod_pointers_121 rfl (lv_at hl 0 rfl) ?_
    refine gf_Mod_interrupts B hP (by decide) L_Mod_147 d_Mod_pointers_122 ?_
    refine lv_icmp_ge (tgt := 147) hx hb d_Mod_pointers_125 (by decide) (fun c1 => ?_) (fun c1 => ?_)
    · have hF := vIt c1 hF
      refine lv_iload_n hx hb d_Mod_pointers_147 rfl (lv_at hl 2 rfl) ?_
      exact ed_rI B hr hA hP hD hS (vP hF) d_Mod_pointers_148
    · have hF := vIf c1 hF
      refine lv_aload_n hx hb d_Mod_pointers_128 rfl (lv_at hl 0 rfl) ?_
      refine gf_Mod_waiting B hP (by decide) L_Mod_131 d_Mod_pointers_129 ?_
      refine lv_iload_n hx hb d_Mod_pointers_132 rfl (lv_at hl 3 rfl) ?_
      obtain ⟨j2, ej3, hj4, hn5, hF⟩ := vG_some hF
      refine il_Mwaiting B hP (by decide) hn5 ej3 d_Mod_pointers_133 ?_
      refine lv_iload_n hx hb d_Mod_pointers_134 rfl (lv_at hl 1 rfl) ?_
      refine lv_icmp_ne (tgt := 141) hx hb d_Mod_pointers_135 (by decide) (fun c6 => ?_) (fun c6 => ?_)
      · have hF := vIf c6 hF
        refine lv_iinc (v := (x3 + 1)) (lv' := [(3, .int (x3 + 1)), (0, .ref (ad (pMod 0))), (1, .int x1), (2, .int x2)]) hx hb d_Mod_pointers_141 hl (k := 3) rfl rfl (by decide) rfl (fun ls hl => ?_)
        refine lv_goto (tgt := 120) hx hb d_Mod_pointers_144 (by decide) ?_
        exact kk120 x1 x2 (x3 + 1) σ  hF _ _ _ hP hD hS (lv_sub hl [1, 2, 3, 0] rfl)
      · have hF := vIt c6 hF
        refine lv_iinc (v := (x2 + 1)) (lv' := [(2, .int (x2 + 1)), (0, .ref (ad (pMod 0))), (1, .int x1), (3, .int x3)]) hx hb d_Mod_pointers_138 hl (k := 2) rfl rfl (by decide) rfl (fun ls hl => ?_)
        refine lv_iinc (v := (x3 + 1)) (lv' := [(3, .int (x3 + 1)), (2, .int (x2 + 1)), (0, .ref (ad (pMod 0))), (1, .int x1)]) hx hb d_Mod_pointers_141 hl (k := 3) rfl rfl (by decide) rfl (fun ls hl => ?_)
        refine lv_goto (tgt := 120) hx hb d_Mod_pointers_144 (by decide) ?_
        exact kk120 x1 (x2 + 1) (x3 + 1) σ  hF _ _ _ hP hD hS (lv_sub hl [2, 3, 1, 0] rfl)
set_option maxHeartbeats 4000000 in
set_option maxRecDepth 100000 in
theorem T_Mod_pointers_94 {r : Int32} {σ' : ed_S} {k63 : Int32 → Int32 → Int32 → ed_S → Option (Int32 × ed_S)} (B : ed_B p s m args meth c prog_10_method_4_code "ExecutiveDeskModel" 5 D ca) (hr : meth.sig.returnType = (some .int)) (hA : ∀ q : Nat, s.heap.size ≤ q → A q) (kk63 : ∀ (x1 : Int32) (x2 : Int32) (x3 : Int32) (σ : ed_S), k63 x1 x2 x3 σ = some (r, σ') → ed_G p l e rm_Mod_pointers s m args below meth c D ca (md_w ad ca) A (ed_QI D ca (md_w ad ca) A below args s r σ') 5 63 [(0, .ref (ad (pMod 0))), (1, .int x1), (2, .int x2), (3, .int x3)] [] σ) : ∀ (x1 : Int32) (x2 : Int32) (x3 : Int32) (s0 : Int32) (s1 : Int32) (σ : ed_S), F_Mod_pointers_94 k63 x1 x2 x3 s0 s1 σ = some (r, σ') → ed_G p l e rm_Mod_pointers s m args below meth c D ca (md_w ad ca) A (ed_QI D ca (md_w ad ca) A below args s r σ') 5 94 [(0, .ref (ad (pMod 0))), (1, .int x1), (2, .int x2), (3, .int x3)] [.int s0, .int s1] σ := by
  have hx := B.1
  have hb := B.2.1
  intro x1 x2 x3 s0 s1 σ  hF H locs ls hP hD hS hl
  have hF : (vG x3 8 fun j1 => (if (σ 36 0 j1) = x1 then (k63 x1 (s1 + (s0 + 1)) (x3 + 1) σ) else (k63 x1 (s1 + (s0 + 0)) (x3 + 1) σ))) = some (r, σ') := hF
  refine lv_aload_n hx hb d_Mod_pointers_94 rfl (lv_at hl 0 rfl) ?_
  refine gf_Mod_tSets B hP (by decide) L_Mod_119 d_Mod_pointers_95 ?_
  refine lv_iload_n hx hb d_Mod_pointers_98 rfl (lv_at hl 3 rfl) ?_
  obtain ⟨j1, ej2, hj3, hn4, hF⟩ := vG_some hF
  refine il_MtSets B hP (by decide) hn4 ej2 d_Mod_pointers_99 ?_
  refine lv_iload_n hx hb d_Mod_pointers_100 rfl (lv_at hl 1 rfl) ?_
  refine lv_icmp_ne (tgt := 108) hx hb d_Mod_pointers_101 (by decide) (fun c5 => ?_) (fun c5 => ?_)
  · have hF := vIf c5 hF
    refine lv_iconst (v := 0) hx hb d_Mod_pointers_108 (by decide) ?_
    refine lv_iadd hx hb d_Mod_pointers_109 ?_
    refine lv_iadd hx hb d_Mod_pointers_110 ?_
    refine lv_istore_n (lv' := [(2, .int (s1 + (s0 + 0))), (0, .ref (ad (pMod 0))), (1, .int x1), (3, .int x3)]) hx hb d_Mod_pointers_111 rfl hl (by decide) rfl (fun ls hl => ?_)
    refine lv_iinc (v := (x3 + 1)) (lv' := [(3, .int (x3 + 1)), (2, .int (s1 + (s0 + 0))), (0, .ref (ad (pMod 0))), (1, .int x1)]) hx hb d_Mod_pointers_112 hl (k := 3) rfl rfl (by decide) rfl (fun ls hl => ?_)
    refine lv_goto (tgt := 63) hx hb d_Mod_pointers_115 (by decide) ?_
    exact kk63 x1 (s1 + (s0 + 0)) (x3 + 1) σ  hF _ _ _ hP hD hS (lv_sub hl [2, 3, 1, 0] rfl)
  · have hF := vIt c5 hF
    refine lv_iconst (v := 1) hx hb d_Mod_pointers_104 (by decide) ?_
    refine lv_goto (tgt := 109) hx hb d_Mod_pointers_105 (by decide) ?_
    refine lv_iadd hx hb d_Mod_pointers_109 ?_
    refine lv_iadd hx hb d_Mod_pointers_110 ?_
    refine lv_istore_n (lv' := [(2, .int (s1 + (s0 + 1))), (0, .ref (ad (pMod 0))), (1, .int x1), (3, .int x3)]) hx hb d_Mod_pointers_111 rfl hl (by decide) rfl (fun ls hl => ?_)
    refine lv_iinc (v := (x3 + 1)) (lv' := [(3, .int (x3 + 1)), (2, .int (s1 + (s0 + 1))), (0, .ref (ad (pMod 0))), (1, .int x1)]) hx hb d_Mod_pointers_112 hl (k := 3) rfl rfl (by decide) rfl (fun ls hl => ?_)
    refine lv_goto (tgt := 63) hx hb d_Mod_pointers_115 (by decide) ?_
    exact kk63 x1 (s1 + (s0 + 1)) (x3 + 1) σ  hF _ _ _ hP hD hS (lv_sub hl [2, 3, 1, 0] rfl)
set_option maxHeartbeats 4000000 in
set_option maxRecDepth 100000 in
theorem T_Mod_pointers_63 {r : Int32} {σ' : ed_S} (B : ed_B p s m args meth c prog_10_method_4_code "ExecutiveDeskModel" 5 D ca) (hr : meth.sig.returnType = (some .int)) (hA : ∀ q : Nat, s.heap.size ≤ q → A q) : ∀ (n : Nat) (x1 : Int32) (x2 : Int32) (x3 : Int32) (σ : ed_S), F_Mod_pointers_63  n x1 x2 x3 σ = some (r, σ') → ed_G p l e rm_Mod_pointers s m args below meth c D ca (md_w ad ca) A (ed_QI D ca (md_w ad ca) A below args s r σ') 5 63 [(0, .ref (ad (pMod 0))), (1, .int x1), (2, .int x2), (3, .int x3)] [] σ := by
  have hx := B.1
  have hb := B.2.1
  intro n
  induction n with
  | zero => intro x1 x2 x3 σ  hF; exact absurd hF (by intro h; cases h)
  | succ n kk63 =>
    intro x1 x2 x3 σ  hF H locs ls hP hD hS hl
    have hF : (if 8 ≤ x3 then (F_Mod_pointers_120  ed_fu x1 x2 0 σ) else (vG x3 8 fun j2 => (if (σ 31 0 j2) = 0 then (vG x3 8 fun j7 => (if (σ 34 0 j7) = x1 then (F_Mod_pointers_94 (F_Mod_pointers_63  n) x1 x2 x3 1 x2 σ) else (F_Mod_pointers_94 (F_Mod_pointers_63  n) x1 x2 x3 0 x2 σ))) else ((F_Mod_pointers_63  n) x1 x2 (x3 + 1) σ)))) = some (r, σ') := hF
    refine lv_iload_n hx hb d_Mod_pointers_63 rfl (lv_at hl 3 rfl) ?_
    refine lv_bipush (v := 8) hx hb d_Mod_pointers_64 (by decide) ?_
    refine lv_icmp_ge (tgt := 118) hx hb d_Mod_pointers_66 (by decide) (fun c1 => ?_) (fun c1 => ?_)
    · have hF := vIt c1 hF
      refine lv_iconst (v := 0) hx hb d_Mod_pointers_118 (by decide) ?_
      refine lv_istore_n (lv' := [(3, .int 0), (0, .ref (ad (pMod 0))), (1, .int x1), (2, .int x2)]) hx hb d_Mod_pointers_119 rfl hl (by decide) rfl (fun ls hl => ?_)
      exact T_Mod_pointers_120 B hr hA  ed_fu x1 x2 0 σ  hF _ _ _ hP hD hS (lv_sub hl [1, 2, 3, 0] rfl)
    · have hF := vIf c1 hF
      refine lv_aload_n hx hb d_Mod_pointers_69 rfl (lv_at hl 0 rfl) ?_
      refine gf_Mod_tState B hP (by decide) L_Mod_104 d_Mod_pointers_70 ?_
      refine lv_iload_n hx hb d_Mod_pointers_73 rfl (lv_at hl 3 rfl) ?_
      obtain ⟨j2, ej3, hj4, hn5, hF⟩ := vG_some hF
      refine il_MtState B hP (by decide) hn5 ej3 d_Mod_pointers_74 ?_
      refine lv_if_ne (tgt := 112) hx hb d_Mod_pointers_75 (by decide) (fun c6 => ?_) (fun c6 => ?_)
      · have hF := vIf c6 hF
        refine lv_iinc (v := (x3 + 1)) (lv' := [(3, .int (x3 + 1)), (0, .ref (ad (pMod 0))), (1, .int x1), (2, .int x2)]) hx hb d_Mod_pointers_112 hl (k := 3) rfl rfl (by decide) rfl (fun ls hl => ?_)
        refine lv_goto (tgt := 63) hx hb d_Mod_pointers_115 (by decide) ?_
        exact kk63 x1 x2 (x3 + 1) σ  hF _ _ _ hP hD hS (lv_sub hl [1, 2, 3, 0] rfl)
      · have hF := vIt c6 hF
        refine lv_iload_n hx hb d_Mod_pointers_78 rfl (lv_at hl 2 rfl) ?_
        refine lv_aload_n hx hb d_Mod_pointers_79 rfl (lv_at hl 0 rfl) ?_
        refine gf_Mod_tDevice B hP (by decide) L_Mod_113 d_Mod_pointers_80 ?_
        refine lv_iload_n hx hb d_Mod_pointers_83 rfl (lv_at hl 3 rfl) ?_
        obtain ⟨j7, ej8, hj9, hn10, hF⟩ := vG_some hF
        refine il_MtDevice B hP (by decide) hn10 ej8 d_Mod_pointers_84 ?_
        refine lv_iload_n hx hb d_Mod_pointers_85 rfl (lv_at hl 1 rfl) ?_
        refine lv_icmp_ne (tgt := 93) hx hb d_Mod_pointers_86 (by decide) (fun c11 => ?_) (fun c11 => ?_)
        · have hF := vIf c11 hF
          refine lv_iconst (v := 0) hx hb d_Mod_pointers_93 (by decide) ?_
          exact T_Mod_pointers_94 B hr hA kk63 x1 x2 x3 0 x2 σ  hF _ _ _ hP hD hS (lv_sub hl [0, 1, 2, 3] rfl)
        · have hF := vIt c11 hF
          refine lv_iconst (v := 1) hx hb d_Mod_pointers_89 (by decide) ?_
          refine lv_goto (tgt := 94) hx hb d_Mod_pointers_90 (by decide) ?_
          exact T_Mod_pointers_94 B hr hA kk63 x1 x2 x3 1 x2 σ  hF _ _ _ hP hD hS (lv_sub hl [0, 1, 2, 3] rfl)
set_option maxHeartbeats 4000000 in
set_option maxRecDepth 100000 in
theorem T_Mod_pointers_15 {r : Int32} {σ' : ed_S} {k4 : Int32 → Int32 → Int32 → ed_S → Option (Int32 × ed_S)} (B : ed_B p s m args meth c prog_10_method_4_code "ExecutiveDeskModel" 5 D ca) (hr : meth.sig.returnType = (some .int)) (hA : ∀ q : Nat, s.heap.size ≤ q → A q) (kk4 : ∀ (x1 : Int32) (x2 : Int32) (x3 : Int32) (σ : ed_S), k4 x1 x2 x3 σ = some (r, σ') → ed_G p l e rm_Mod_pointers s m args below meth c D ca (md_w ad ca) A (ed_QI D ca (md_w ad ca) A below args s r σ') 5 4 [(0, .ref (ad (pMod 0))), (1, .int x1), (2, .int x2), (3, .int x3)] [] σ) : ∀ (n : Nat) (x1 : Int32) (x2 : Int32) (x3 : Int32) (x4 : Int32) (σ : ed_S), F_Mod_pointers_15 k4 n x1 x2 x3 x4 σ = some (r, σ') → ed_G p l e rm_Mod_pointers s m args below meth c D ca (md_w ad ca) A (ed_QI D ca (md_w ad ca) A below args s r σ') 5 15 [(0, .ref (ad (pMod 0))), (1, .int x1), (2, .int x2), (3, .int x3), (4, .int x4)] [] σ := by
  have hx := B.1
  have hb := B.2.1
  intro n
  induction n with
  | zero => intro x1 x2 x3 x4 σ  hF; exact absurd hF (by intro h; cases h)
  | succ n kk15 =>
    intro x1 x2 x3 x4 σ  hF H locs ls hP hD hS hl
    have hF : (if 3 ≤ x4 then (k4 x1 x2 (x3 + 1) σ) else (vG x3 8 fun j2 => (if (σ 7 0 j2) = 2 then (vG ((3 * x3) + x4) 24 fun j7 => (if (σ 17 0 j7) = x1 then ((F_Mod_pointers_15 k4 n) x1 (x2 + 1) x3 (x4 + 1) σ) else ((F_Mod_pointers_15 k4 n) x1 x2 x3 (x4 + 1) σ))) else ((F_Mod_pointers_15 k4 n) x1 x2 x3 (x4 + 1) σ)))) = some (r, σ') := hF
    refine lv_iload hx hb d_Mod_pointers_15 (lv_at hl 4 rfl) ?_
    refine lv_iconst (v := 3) hx hb d_Mod_pointers_17 (by decide) ?_
    refine lv_icmp_ge (tgt := 55) hx hb d_Mod_pointers_18 (by decide) (fun c1 => ?_) (fun c1 => ?_)
    · have hF := vIt c1 hF
      refine lv_iinc (v := (x3 + 1)) (lv' := [(3, .int (x3 + 1)), (0, .ref (ad (pMod 0))), (1, .int x1), (2, .int x2), (4, .int x4)]) hx hb d_Mod_pointers_55 hl (k := 3) rfl rfl (by decide) rfl (fun ls hl => ?_)
      refine lv_goto (tgt := 4) hx hb d_Mod_pointers_58 (by decide) ?_
      exact kk4 x1 x2 (x3 + 1) σ  hF _ _ _ hP hD hS (lv_sub hl [1, 2, 3, 0] rfl)
    · have hF := vIf c1 hF
      refine lv_aload_n hx hb d_Mod_pointers_21 rfl (lv_at hl 0 rfl) ?_
      refine gf_Mod_state B hP (by decide) L_Mod_31 d_Mod_pointers_22 ?_
      refine lv_iload_n hx hb d_Mod_pointers_25 rfl (lv_at hl 3 rfl) ?_
      obtain ⟨j2, ej3, hj4, hn5, hF⟩ := vG_some hF
      refine il_Mstate B hP (by decide) hn5 ej3 d_Mod_pointers_26 ?_
      refine lv_iconst (v := 2) hx hb d_Mod_pointers_27 (by decide) ?_
      refine lv_icmp_ne (tgt := 49) hx hb d_Mod_pointers_28 (by decide) (fun c6 => ?_) (fun c6 => ?_)
      · have hF := vIf c6 hF
        refine lv_iinc (v := (x4 + 1)) (lv' := [(4, .int (x4 + 1)), (0, .ref (ad (pMod 0))), (1, .int x1), (2, .int x2), (3, .int x3)]) hx hb d_Mod_pointers_49 hl (k := 4) rfl rfl (by decide) rfl (fun ls hl => ?_)
        refine lv_goto (tgt := 15) hx hb d_Mod_pointers_52 (by decide) ?_
        exact kk15 x1 x2 x3 (x4 + 1) σ  hF _ _ _ hP hD hS (lv_sub hl [1, 2, 3, 4, 0] rfl)
      · have hF := vIt c6 hF
        refine lv_aload_n hx hb d_Mod_pointers_31 rfl (lv_at hl 0 rfl) ?_
        refine gf_Mod_place B hP (by decide) L_Mod_61 d_Mod_pointers_32 ?_
        refine lv_iconst (v := 3) hx hb d_Mod_pointers_35 (by decide) ?_
        refine lv_iload_n hx hb d_Mod_pointers_36 rfl (lv_at hl 3 rfl) ?_
        refine lv_imul hx hb d_Mod_pointers_37 ?_
        refine lv_iload hx hb d_Mod_pointers_38 (lv_at hl 4 rfl) ?_
        refine lv_iadd hx hb d_Mod_pointers_40 ?_
        obtain ⟨j7, ej8, hj9, hn10, hF⟩ := vG_some hF
        refine il_Mplace B hP (by decide) hn10 ej8 d_Mod_pointers_41 ?_
        refine lv_iload_n hx hb d_Mod_pointers_42 rfl (lv_at hl 1 rfl) ?_
        refine lv_icmp_ne (tgt := 49) hx hb d_Mod_pointers_43 (by decide) (fun c11 => ?_) (fun c11 => ?_)
        · have hF := vIf c11 hF
          refine lv_iinc (v := (x4 + 1)) (lv' := [(4, .int (x4 + 1)), (0, .ref (ad (pMod 0))), (1, .int x1), (2, .int x2), (3, .int x3)]) hx hb d_Mod_pointers_49 hl (k := 4) rfl rfl (by decide) rfl (fun ls hl => ?_)
          refine lv_goto (tgt := 15) hx hb d_Mod_pointers_52 (by decide) ?_
          exact kk15 x1 x2 x3 (x4 + 1) σ  hF _ _ _ hP hD hS (lv_sub hl [1, 2, 3, 4, 0] rfl)
        · have hF := vIt c11 hF
          refine lv_iinc (v := (x2 + 1)) (lv' := [(2, .int (x2 + 1)), (0, .ref (ad (pMod 0))), (1, .int x1), (3, .int x3), (4, .int x4)]) hx hb d_Mod_pointers_46 hl (k := 2) rfl rfl (by decide) rfl (fun ls hl => ?_)
          refine lv_iinc (v := (x4 + 1)) (lv' := [(4, .int (x4 + 1)), (2, .int (x2 + 1)), (0, .ref (ad (pMod 0))), (1, .int x1), (3, .int x3)]) hx hb d_Mod_pointers_49 hl (k := 4) rfl rfl (by decide) rfl (fun ls hl => ?_)
          refine lv_goto (tgt := 15) hx hb d_Mod_pointers_52 (by decide) ?_
          exact kk15 x1 (x2 + 1) x3 (x4 + 1) σ  hF _ _ _ hP hD hS (lv_sub hl [2, 3, 1, 4, 0] rfl)
set_option maxHeartbeats 4000000 in
set_option maxRecDepth 100000 in
theorem T_Mod_pointers_4 {r : Int32} {σ' : ed_S} (B : ed_B p s m args meth c prog_10_method_4_code "ExecutiveDeskModel" 5 D ca) (hr : meth.sig.returnType = (some .int)) (hA : ∀ q : Nat, s.heap.size ≤ q → A q) : ∀ (n : Nat) (x1 : Int32) (x2 : Int32) (x3 : Int32) (σ : ed_S), F_Mod_pointers_4  n x1 x2 x3 σ = some (r, σ') → ed_G p l e rm_Mod_pointers s m args below meth c D ca (md_w ad ca) A (ed_QI D ca (md_w ad ca) A below args s r σ') 5 4 [(0, .ref (ad (pMod 0))), (1, .int x1), (2, .int x2), (3, .int x3)] [] σ := by
  have hx := B.1
  have hb := B.2.1
  intro n
  induction n with
  | zero => intro x1 x2 x3 σ  hF; exact absurd hF (by intro h; cases h)
  | succ n kk4 =>
    intro x1 x2 x3 σ  hF H locs ls hP hD hS hl
    have hF : (if (σ 43 0 0) ≤ x3 then (F_Mod_pointers_63  ed_fu x1 x2 0 σ) else (F_Mod_pointers_15 (F_Mod_pointers_4  n) ed_fu x1 x2 x3 0 σ)) = some (r, σ') := hF
    refine lv_iload_n hx hb d_Mod_pointers_4 rfl (lv_at hl 3 rfl) ?_
    refine lv_aload_n hx hb d_Mod_pointers_5 rfl (lv_at hl 0 rfl) ?_
    refine gf_Mod_threads B hP (by decide) L_Mod_144 d_Mod_pointers_6 ?_
    refine lv_icmp_ge (tgt := 61) hx hb d_Mod_pointers_9 (by decide) (fun c1 => ?_) (fun c1 => ?_)
    · have hF := vIt c1 hF
      refine lv_iconst (v := 0) hx hb d_Mod_pointers_61 (by decide) ?_
      refine lv_istore_n (lv' := [(3, .int 0), (0, .ref (ad (pMod 0))), (1, .int x1), (2, .int x2)]) hx hb d_Mod_pointers_62 rfl hl (by decide) rfl (fun ls hl => ?_)
      exact T_Mod_pointers_63 B hr hA  ed_fu x1 x2 0 σ  hF _ _ _ hP hD hS (lv_sub hl [1, 2, 3, 0] rfl)
    · have hF := vIf c1 hF
      refine lv_iconst (v := 0) hx hb d_Mod_pointers_12 (by decide) ?_
      refine lv_istore (lv' := [(4, .int 0), (0, .ref (ad (pMod 0))), (1, .int x1), (2, .int x2), (3, .int x3)]) hx hb d_Mod_pointers_13 hl (by decide) rfl (fun ls hl => ?_)
      exact T_Mod_pointers_15 B hr hA kk4 ed_fu x1 x2 x3 0 σ  hF _ _ _ hP hD hS (lv_sub hl [1, 2, 3, 4, 0] rfl)
set_option maxHeartbeats 4000000 in
set_option maxRecDepth 100000 in
theorem T_Mod_pointers {r : Int32} {σ' : ed_S} (B : ed_B p s m args meth c prog_10_method_4_code "ExecutiveDeskModel" 5 D ca) (hr : meth.sig.returnType = (some .int)) (hA : ∀ q : Nat, s.heap.size ≤ q → A q) : ∀ (x1 : Int32) (σ : ed_S), F_Mod_pointers  x1 σ = some (r, σ') → ed_G p l e rm_Mod_pointers s m args below meth c D ca (md_w ad ca) A (ed_QI D ca (md_w ad ca) A below args s r σ') 5 0 [(0, .ref (ad (pMod 0))), (1, .int x1)] [] σ := by
  have hx := B.1
  have hb := B.2.1
  intro x1 σ  hF H locs ls hP hD hS hl
  have hF : (F_Mod_pointers_4  ed_fu x1 0 0 σ) = some (r, σ') := hF
  refine lv_iconst (v := 0) hx hb d_Mod_pointers_0 (by decide) ?_
  refine lv_istore_n (lv' := [(2, .int 0), (0, .ref (ad (pMod 0))), (1, .int x1)]) hx hb d_Mod_pointers_1 rfl hl (by decide) rfl (fun ls hl => ?_)
  refine lv_iconst (v := 0) hx hb d_Mod_pointers_2 (by decide) ?_
  refine lv_istore_n (lv' := [(3, .int 0), (2, .int 0), (0, .ref (ad (pMod 0))), (1, .int x1)]) hx hb d_Mod_pointers_3 rfl hl (by decide) rfl (fun ls hl => ?_)
  exact T_Mod_pointers_4 B hr hA  ed_fu x1 0 0 σ  hF _ _ _ hP hD hS (lv_sub hl [2, 3, 1, 0] rfl)
set_option maxHeartbeats 4000000 in
set_option maxRecDepth 100000 in
theorem C_Mod_pointers (l : Launch) (D : va_G) (ad : Nat → Nat) (ca : Nat → ClassId) (x1 : Int32) (σ : ed_S) (r : Int32) (σ' : ed_S) (hF : F_Mod_pointers x1 σ = some (r, σ')) : ed_MI l y_Mod_pointers ws_Mod_pointers rm_Mod_pointers D ca (md_w ad ca) [.ref (ad (pMod 0)), .int x1] σ r σ' := by
  refine ed_metI (cc := prog_10_method_4_code) (own := "ExecutiveDeskModel") (nL := 5) (ret := (some .int)) (by decide) rfl rfl (Nat.le_of_ble_eq_true rfl) ?_
  intro p e s m args below meth c A B hr hA
  exact T_Mod_pointers B hr hA x1 σ  hF
abbrev ws_Mod_tidy : List Cond := Cond.code y_Mod_tidy prog_10_method_5_code 2 none :: ed_tb
abbrev rm_Mod_tidy : Room := { frames := 1, cells := 0, slots := 0, locals := 24 }
def F_Mod_tidy_2 : Nat → Int32 → ed_S → Option ed_S
  | 0, _, _ => none
  | n + 1, x1, σ => (if 16 ≤ x1 then (some σ) else (vG x1 16 fun j2 => (if (σ 19 0 j2) = 0 then ((F_Mod_tidy_2  n) (x1 + 1) σ) else (vB2 (F_Mod_handles x1 σ) fun r9 σ7 => (if r9 ≤ 0 then (vG x1 16 fun j11 => vL (ed_st σ7 23 0 j11 (-1)) fun σ15 => (vB2 (F_Mod_pointers x1 σ15) fun r19 σ17 => (if r19 = 0 then (vG x1 16 fun j21 => vL (ed_st σ17 19 0 j21 0) fun σ25 => ((F_Mod_tidy_2  n) (x1 + 1) σ25)) else ((F_Mod_tidy_2  n) (x1 + 1) σ17)))) else ((F_Mod_tidy_2  n) (x1 + 1) σ7))))))
def F_Mod_tidy (σ : ed_S) : Option ed_S := (F_Mod_tidy_2  ed_fu 0 σ)
set_option maxHeartbeats 4000000 in
set_option maxRecDepth 100000 in
theorem T_Mod_tidy_2 {σ' : ed_S} (B : ed_B p s m args meth c prog_10_method_5_code "ExecutiveDeskModel" 2 D ca) (hr : meth.sig.returnType = none) (hA : ∀ q : Nat, s.heap.size ≤ q → A q) : ∀ (n : Nat) (x1 : Int32) (σ : ed_S), F_Mod_tidy_2  n x1 σ = some σ' → ed_G p l e rm_Mod_tidy s m args below meth c D ca (md_w ad ca) A (ed_QV D ca (md_w ad ca) A below args s σ') 2 2 [(0, .ref (ad (pMod 0))), (1, .int x1)] [] σ := by
  have hx := B.1
  have hb := B.2.1
  intro n
  induction n with
  | zero => intro x1 σ  hF; exact absurd hF (by intro h; cases h)
  | succ n kk2 =>
    intro x1 σ  hF H locs ls hP hD hS hl
    have hF : (if 16 ≤ x1 then (some σ) else (vG x1 16 fun j2 => (if (σ 19 0 j2) = 0 then ((F_Mod_tidy_2  n) (x1 + 1) σ) else (vB2 (F_Mod_handles x1 σ) fun r9 σ7 => (if r9 ≤ 0 then (vG x1 16 fun j11 => vL (ed_st σ7 23 0 j11 (-1)) fun σ15 => (vB2 (F_Mod_pointers x1 σ15) fun r19 σ17 => (if r19 = 0 then (vG x1 16 fun j21 => vL (ed_st σ17 19 0 j21 0) fun σ25 => ((F_Mod_tidy_2  n) (x1 + 1) σ25)) else ((F_Mod_tidy_2  n) (x1 + 1) σ17)))) else ((F_Mod_tidy_2  n) (x1 + 1) σ7)))))) = some σ' := hF
    refine lv_iload_n hx hb d_Mod_tidy_2 rfl (lv_at hl 1 rfl) ?_
    refine lv_bipush (v := 16) hx hb d_Mod_tidy_3 (by decide) ?_
    refine lv_icmp_ge (tgt := 56) hx hb d_Mod_tidy_5 (by decide) (fun c1 => ?_) (fun c1 => ?_)
    · have hF := vIt c1 hF
      exact ed_rV B hr hA hP hD hS (Option.some.inj hF) d_Mod_tidy_56
    · have hF := vIf c1 hF
      refine lv_aload_n hx hb d_Mod_tidy_8 rfl (lv_at hl 0 rfl) ?_
      refine gf_Mod_there B hP (by decide) L_Mod_67 d_Mod_tidy_9 ?_
      refine lv_iload_n hx hb d_Mod_tidy_12 rfl (lv_at hl 1 rfl) ?_
      obtain ⟨j2, ej3, hj4, hn5, hF⟩ := vG_some hF
      refine il_Mthere B hP (by decide) hn5 ej3 d_Mod_tidy_13 ?_
      refine lv_if_eq (tgt := 50) hx hb d_Mod_tidy_14 (by decide) (fun c6 => ?_) (fun c6 => ?_)
      · have hF := vIt c6 hF
        refine lv_iinc (v := (x1 + 1)) (lv' := [(1, .int (x1 + 1)), (0, .ref (ad (pMod 0)))]) hx hb d_Mod_tidy_50 hl (k := 1) rfl rfl (by decide) rfl (fun ls hl => ?_)
        refine lv_goto (tgt := 2) hx hb d_Mod_tidy_53 (by decide) ?_
        exact kk2 (x1 + 1) σ  hF _ _ _ hP hD hS (lv_sub hl [1, 0] rfl)
      · have hF := vIf c6 hF
        refine lv_aload_n hx hb d_Mod_tidy_17 rfl (lv_at hl 0 rfl) ?_
        refine lv_iload_n hx hb d_Mod_tidy_18 rfl (lv_at hl 1 rfl) ?_
        obtain ⟨r9, σ7, q8, hF⟩ := vB2_some hF
        refine ed_cvI (As := [.int x1]) (rest := []) B hP hD hS hA (C_Mod_handles l D ad ca x1 σ r9 σ7  q8) me_Mod_handles mv_Mod_handles L_Mod_150 (ed_rc_Mod B hP (by decide)) ⟨rfl, rfl⟩ ⟨Nat.le_of_ble_eq_true rfl, Nat.le_of_ble_eq_true rfl⟩ rfl rfl hl.1 (lv_room (Nat.le_of_ble_eq_true rfl)) d_Mod_tidy_19 (fun H locs hP hD hS => ?_)
        refine lv_if_le (tgt := 28) hx hb d_Mod_tidy_22 (by decide) (fun c10 => ?_) (fun c10 => ?_)
        · have hF := vIt c10 hF
          refine lv_aload_n hx hb d_Mod_tidy_28 rfl (lv_at hl 0 rfl) ?_
          refine gf_Mod_name B hP (by decide) L_Mod_80 d_Mod_tidy_29 ?_
          refine lv_iload_n hx hb d_Mod_tidy_32 rfl (lv_at hl 1 rfl) ?_
          refine lv_iconst (v := (-1)) hx hb d_Mod_tidy_33 (by decide) ?_
          obtain ⟨j11, ej12, hj13, hn14, hF⟩ := vG_some hF
          obtain ⟨σ15, e16, hF⟩ := vL_some hF
          refine is_Mname B hP hD hS (by decide) hn14 ej12 e16 d_Mod_tidy_34 (fun H locs hP hD hS => ?_)
          refine lv_aload_n hx hb d_Mod_tidy_35 rfl (lv_at hl 0 rfl) ?_
          refine lv_iload_n hx hb d_Mod_tidy_36 rfl (lv_at hl 1 rfl) ?_
          obtain ⟨r19, σ17, q18, hF⟩ := vB2_some hF
          refine ed_cvI (As := [.int x1]) (rest := []) B hP hD hS hA (C_Mod_pointers l D ad ca x1 σ15 r19 σ17  q18) me_Mod_pointers mv_Mod_pointers L_Mod_154 (ed_rc_Mod B hP (by decide)) ⟨rfl, rfl⟩ ⟨Nat.le_of_ble_eq_true rfl, Nat.le_of_ble_eq_true rfl⟩ rfl rfl hl.1 (lv_room (Nat.le_of_ble_eq_true rfl)) d_Mod_tidy_37 (fun H locs hP hD hS => ?_)
          refine lv_if_ne (tgt := 50) hx hb d_Mod_tidy_40 (by decide) (fun c20 => ?_) (fun c20 => ?_)
          · have hF := vIf c20 hF
            refine lv_iinc (v := (x1 + 1)) (lv' := [(1, .int (x1 + 1)), (0, .ref (ad (pMod 0)))]) hx hb d_Mod_tidy_50 hl (k := 1) rfl rfl (by decide) rfl (fun ls hl => ?_)
            refine lv_goto (tgt := 2) hx hb d_Mod_tidy_53 (by decide) ?_
            exact kk2 (x1 + 1) σ17  hF _ _ _ hP hD hS (lv_sub hl [1, 0] rfl)
          · have hF := vIt c20 hF
            refine lv_aload_n hx hb d_Mod_tidy_43 rfl (lv_at hl 0 rfl) ?_
            refine gf_Mod_there B hP (by decide) L_Mod_67 d_Mod_tidy_44 ?_
            refine lv_iload_n hx hb d_Mod_tidy_47 rfl (lv_at hl 1 rfl) ?_
            refine lv_iconst (v := 0) hx hb d_Mod_tidy_48 (by decide) ?_
            obtain ⟨j21, ej22, hj23, hn24, hF⟩ := vG_some hF
            obtain ⟨σ25, e26, hF⟩ := vL_some hF
            refine is_Mthere B hP hD hS (by decide) hn24 ej22 (by decide) e26 d_Mod_tidy_49 (fun H locs hP hD hS => ?_)
            refine lv_iinc (v := (x1 + 1)) (lv' := [(1, .int (x1 + 1)), (0, .ref (ad (pMod 0)))]) hx hb d_Mod_tidy_50 hl (k := 1) rfl rfl (by decide) rfl (fun ls hl => ?_)
            refine lv_goto (tgt := 2) hx hb d_Mod_tidy_53 (by decide) ?_
            exact kk2 (x1 + 1) σ25  hF _ _ _ hP hD hS (lv_sub hl [1, 0] rfl)
        · have hF := vIf c10 hF
          refine lv_goto (tgt := 50) hx hb d_Mod_tidy_25 (by decide) ?_
          refine lv_iinc (v := (x1 + 1)) (lv' := [(1, .int (x1 + 1)), (0, .ref (ad (pMod 0)))]) hx hb d_Mod_tidy_50 hl (k := 1) rfl rfl (by decide) rfl (fun ls hl => ?_)
          refine lv_goto (tgt := 2) hx hb d_Mod_tidy_53 (by decide) ?_
          exact kk2 (x1 + 1) σ7  hF _ _ _ hP hD hS (lv_sub hl [1, 0] rfl)
set_option maxHeartbeats 4000000 in
set_option maxRecDepth 100000 in
theorem T_Mod_tidy {σ' : ed_S} (B : ed_B p s m args meth c prog_10_method_5_code "ExecutiveDeskModel" 2 D ca) (hr : meth.sig.returnType = none) (hA : ∀ q : Nat, s.heap.size ≤ q → A q) : ∀ (σ : ed_S), F_Mod_tidy   σ = some σ' → ed_G p l e rm_Mod_tidy s m args below meth c D ca (md_w ad ca) A (ed_QV D ca (md_w ad ca) A below args s σ') 2 0 [(0, .ref (ad (pMod 0)))] [] σ := by
  have hx := B.1
  have hb := B.2.1
  intro  σ  hF H locs ls hP hD hS hl
  have hF : (F_Mod_tidy_2  ed_fu 0 σ) = some σ' := hF
  refine lv_iconst (v := 0) hx hb d_Mod_tidy_0 (by decide) ?_
  refine lv_istore_n (lv' := [(1, .int 0), (0, .ref (ad (pMod 0)))]) hx hb d_Mod_tidy_1 rfl hl (by decide) rfl (fun ls hl => ?_)
  exact T_Mod_tidy_2 B hr hA  ed_fu 0 σ  hF _ _ _ hP hD hS (lv_sub hl [1, 0] rfl)
set_option maxHeartbeats 4000000 in
set_option maxRecDepth 100000 in
theorem C_Mod_tidy (l : Launch) (D : va_G) (ad : Nat → Nat) (ca : Nat → ClassId) (σ : ed_S) (σ' : ed_S) (hF : F_Mod_tidy  σ = some σ') : ed_MV l y_Mod_tidy ws_Mod_tidy rm_Mod_tidy D ca (md_w ad ca) [.ref (ad (pMod 0))] σ σ' := by
  refine ed_metV (cc := prog_10_method_5_code) (own := "ExecutiveDeskModel") (nL := 2) (ret := none) (by decide) rfl rfl (Nat.le_of_ble_eq_true rfl) ?_
  intro p e s m args below meth c A B hr hA
  exact T_Mod_tidy B hr hA  σ  hF
abbrev ws_Mod_isHandle : List Cond := Cond.code y_Mod_isHandle prog_10_method_6_code 2 (some .boolean) :: ed_tb
abbrev rm_Mod_isHandle : Room := { frames := 1, cells := 0, slots := 0, locals := 22 }
def F_Mod_isHandle (x1 : Int32) (σ : ed_S) : Option (Int32 × ed_S) := (vB2 (F_Mod_is x1 0 7 σ) fun r3 σ1 => (if r3 = 0 then (some (0, σ1)) else (vG (σ1 44 0 0) 8 fun j5 => (vG ((8 * (σ1 5 0 j5)) + x1) 32 fun j9 => (if (σ1 3 0 j9) < 0 then (some (0, σ1)) else (some (1, σ1)))))))
set_option maxHeartbeats 4000000 in
set_option maxRecDepth 100000 in
theorem T_Mod_isHandle {r : Int32} {σ' : ed_S} (B : ed_B p s m args meth c prog_10_method_6_code "ExecutiveDeskModel" 2 D ca) (hr : meth.sig.returnType = (some .boolean)) (hA : ∀ q : Nat, s.heap.size ≤ q → A q) : ∀ (x1 : Int32) (σ : ed_S), F_Mod_isHandle  x1 σ = some (r, σ') → ed_G p l e rm_Mod_isHandle s m args below meth c D ca (md_w ad ca) A (ed_QI D ca (md_w ad ca) A below args s r σ') 2 0 [(0, .ref (ad (pMod 0))), (1, .int x1)] [] σ := by
  have hx := B.1
  have hb := B.2.1
  intro x1 σ  hF H locs ls hP hD hS hl
  have hF : (vB2 (F_Mod_is x1 0 7 σ) fun r3 σ1 => (if r3 = 0 then (some (0, σ1)) else (vG (σ1 44 0 0) 8 fun j5 => (vG ((8 * (σ1 5 0 j5)) + x1) 32 fun j9 => (if (σ1 3 0 j9) < 0 then (some (0, σ1)) else (some (1, σ1))))))) = some (r, σ') := hF
  refine lv_iload_n hx hb d_Mod_isHandle_0 rfl (lv_at hl 1 rfl) ?_
  refine lv_iconst (v := 0) hx hb d_Mod_isHandle_1 (by decide) ?_
  refine lv_bipush (v := 7) hx hb d_Mod_isHandle_2 (by decide) ?_
  obtain ⟨r3, σ1, q2, hF⟩ := vB2_some hF
  refine ed_csI (As := [.int x1, .int 0, .int 7]) (rest := []) B hP hD hS hA (C_Mod_is l D ad ca x1 0 7 σ r3 σ1  q2) me_Mod_is st_Mod_is L_Mod_157 ⟨rfl, rfl⟩ ⟨Nat.le_of_ble_eq_true rfl, Nat.le_of_ble_eq_true rfl⟩ rfl rfl hl.1 (lv_room (Nat.le_of_ble_eq_true rfl)) d_Mod_isHandle_4 (fun H locs hP hD hS => ?_)
  refine lv_if_eq (tgt := 36) hx hb d_Mod_isHandle_7 (by decide) (fun c4 => ?_) (fun c4 => ?_)
  · have hF := vIt c4 hF
    refine lv_iconst (v := 0) hx hb d_Mod_isHandle_36 (by decide) ?_
    exact ed_rZ B hr hA hP hD hS (by decide) (vP hF) d_Mod_isHandle_37
  · have hF := vIf c4 hF
    refine lv_aload_n hx hb d_Mod_isHandle_10 rfl (lv_at hl 0 rfl) ?_
    refine gf_Mod_handleObject B hP (by decide) L_Mod_19 d_Mod_isHandle_11 ?_
    refine lv_bipush (v := 8) hx hb d_Mod_isHandle_14 (by decide) ?_
    refine lv_aload_n hx hb d_Mod_isHandle_16 rfl (lv_at hl 0 rfl) ?_
    refine gf_Mod_home B hP (by decide) L_Mod_25 d_Mod_isHandle_17 ?_
    refine lv_aload_n hx hb d_Mod_isHandle_20 rfl (lv_at hl 0 rfl) ?_
    refine gf_Mod_running B hP (by decide) L_Mod_137 d_Mod_isHandle_21 ?_
    obtain ⟨j5, ej6, hj7, hn8, hF⟩ := vG_some hF
    refine il_Mhome B hP (by decide) hn8 ej6 d_Mod_isHandle_24 ?_
    refine lv_imul hx hb d_Mod_isHandle_25 ?_
    refine lv_iload_n hx hb d_Mod_isHandle_26 rfl (lv_at hl 1 rfl) ?_
    refine lv_iadd hx hb d_Mod_isHandle_27 ?_
    obtain ⟨j9, ej10, hj11, hn12, hF⟩ := vG_some hF
    refine il_MhandleObject B hP (by decide) hn12 ej10 d_Mod_isHandle_28 ?_
    refine lv_if_lt (tgt := 36) hx hb d_Mod_isHandle_29 (by decide) (fun c13 => ?_) (fun c13 => ?_)
    · have hF := vIt c13 hF
      refine lv_iconst (v := 0) hx hb d_Mod_isHandle_36 (by decide) ?_
      exact ed_rZ B hr hA hP hD hS (by decide) (vP hF) d_Mod_isHandle_37
    · have hF := vIf c13 hF
      refine lv_iconst (v := 1) hx hb d_Mod_isHandle_32 (by decide) ?_
      refine lv_goto (tgt := 37) hx hb d_Mod_isHandle_33 (by decide) ?_
      exact ed_rZ B hr hA hP hD hS (by decide) (vP hF) d_Mod_isHandle_37
set_option maxHeartbeats 4000000 in
set_option maxRecDepth 100000 in
theorem C_Mod_isHandle (l : Launch) (D : va_G) (ad : Nat → Nat) (ca : Nat → ClassId) (x1 : Int32) (σ : ed_S) (r : Int32) (σ' : ed_S) (hF : F_Mod_isHandle x1 σ = some (r, σ')) : ed_MI l y_Mod_isHandle ws_Mod_isHandle rm_Mod_isHandle D ca (md_w ad ca) [.ref (ad (pMod 0)), .int x1] σ r σ' := by
  refine ed_metI (cc := prog_10_method_6_code) (own := "ExecutiveDeskModel") (nL := 2) (ret := (some .boolean)) (by decide) rfl rfl (Nat.le_of_ble_eq_true rfl) ?_
  intro p e s m args below meth c A B hr hA
  exact T_Mod_isHandle B hr hA x1 σ  hF
abbrev ws_Mod_objectOf : List Cond := Cond.code y_Mod_objectOf prog_10_method_7_code 2 (some .int) :: ed_tb
abbrev rm_Mod_objectOf : Room := { frames := 0, cells := 0, slots := 0, locals := 0 }
def F_Mod_objectOf (x1 : Int32) (σ : ed_S) : Option (Int32 × ed_S) := (vG (σ 44 0 0) 8 fun j1 => (vG ((8 * (σ 5 0 j1)) + x1) 32 fun j5 => (some ((σ 3 0 j5), σ))))
set_option maxHeartbeats 4000000 in
set_option maxRecDepth 100000 in
theorem T_Mod_objectOf {r : Int32} {σ' : ed_S} (B : ed_B p s m args meth c prog_10_method_7_code "ExecutiveDeskModel" 2 D ca) (hr : meth.sig.returnType = (some .int)) (hA : ∀ q : Nat, s.heap.size ≤ q → A q) : ∀ (x1 : Int32) (σ : ed_S), F_Mod_objectOf  x1 σ = some (r, σ') → ed_G p l e rm_Mod_objectOf s m args below meth c D ca (md_w ad ca) A (ed_QI D ca (md_w ad ca) A below args s r σ') 2 0 [(0, .ref (ad (pMod 0))), (1, .int x1)] [] σ := by
  have hx := B.1
  have hb := B.2.1
  intro x1 σ  hF H locs ls hP hD hS hl
  have hF : (vG (σ 44 0 0) 8 fun j1 => (vG ((8 * (σ 5 0 j1)) + x1) 32 fun j5 => (some ((σ 3 0 j5), σ)))) = some (r, σ') := hF
  refine lv_aload_n hx hb d_Mod_objectOf_0 rfl (lv_at hl 0 rfl) ?_
  refine gf_Mod_handleObject B hP (by decide) L_Mod_19 d_Mod_objectOf_1 ?_
  refine lv_bipush (v := 8) hx hb d_Mod_objectOf_4 (by decide) ?_
  refine lv_aload_n hx hb d_Mod_objectOf_6 rfl (lv_at hl 0 rfl) ?_
  refine gf_Mod_home B hP (by decide) L_Mod_25 d_Mod_objectOf_7 ?_
  refine lv_aload_n hx hb d_Mod_objectOf_10 rfl (lv_at hl 0 rfl) ?_
  refine gf_Mod_running B hP (by decide) L_Mod_137 d_Mod_objectOf_11 ?_
  obtain ⟨j1, ej2, hj3, hn4, hF⟩ := vG_some hF
  refine il_Mhome B hP (by decide) hn4 ej2 d_Mod_objectOf_14 ?_
  refine lv_imul hx hb d_Mod_objectOf_15 ?_
  refine lv_iload_n hx hb d_Mod_objectOf_16 rfl (lv_at hl 1 rfl) ?_
  refine lv_iadd hx hb d_Mod_objectOf_17 ?_
  obtain ⟨j5, ej6, hj7, hn8, hF⟩ := vG_some hF
  refine il_MhandleObject B hP (by decide) hn8 ej6 d_Mod_objectOf_18 ?_
  exact ed_rI B hr hA hP hD hS (vP hF) d_Mod_objectOf_19
set_option maxHeartbeats 4000000 in
set_option maxRecDepth 100000 in
theorem C_Mod_objectOf (l : Launch) (D : va_G) (ad : Nat → Nat) (ca : Nat → ClassId) (x1 : Int32) (σ : ed_S) (r : Int32) (σ' : ed_S) (hF : F_Mod_objectOf x1 σ = some (r, σ')) : ed_MI l y_Mod_objectOf ws_Mod_objectOf rm_Mod_objectOf D ca (md_w ad ca) [.ref (ad (pMod 0)), .int x1] σ r σ' := by
  refine ed_metI (cc := prog_10_method_7_code) (own := "ExecutiveDeskModel") (nL := 2) (ret := (some .int)) (by decide) rfl rfl (Nat.le_of_ble_eq_true rfl) ?_
  intro p e s m args below meth c A B hr hA
  exact T_Mod_objectOf B hr hA x1 σ  hF
abbrev ws_Mod_lacks : List Cond := Cond.code y_Mod_lacks prog_10_method_8_code 3 (some .boolean) :: ed_tb
abbrev rm_Mod_lacks : Room := { frames := 0, cells := 0, slots := 0, locals := 0 }
def F_Mod_lacks (x1 : Int32) (x2 : Int32) (σ : ed_S) : Option (Int32 × ed_S) := (vG (σ 44 0 0) 8 fun j1 => (vG ((8 * (σ 5 0 j1)) + x1) 32 fun j5 => (if ((σ 4 0 j5) &&& x2) = 0 then (some (1, σ)) else (some (0, σ)))))
set_option maxHeartbeats 4000000 in
set_option maxRecDepth 100000 in
theorem T_Mod_lacks {r : Int32} {σ' : ed_S} (B : ed_B p s m args meth c prog_10_method_8_code "ExecutiveDeskModel" 3 D ca) (hr : meth.sig.returnType = (some .boolean)) (hA : ∀ q : Nat, s.heap.size ≤ q → A q) : ∀ (x1 : Int32) (x2 : Int32) (σ : ed_S), F_Mod_lacks  x1 x2 σ = some (r, σ') → ed_G p l e rm_Mod_lacks s m args below meth c D ca (md_w ad ca) A (ed_QI D ca (md_w ad ca) A below args s r σ') 3 0 [(0, .ref (ad (pMod 0))), (1, .int x1), (2, .int x2)] [] σ := by
  have hx := B.1
  have hb := B.2.1
  intro x1 x2 σ  hF H locs ls hP hD hS hl
  have hF : (vG (σ 44 0 0) 8 fun j1 => (vG ((8 * (σ 5 0 j1)) + x1) 32 fun j5 => (if ((σ 4 0 j5) &&& x2) = 0 then (some (1, σ)) else (some (0, σ))))) = some (r, σ') := hF
  refine lv_aload_n hx hb d_Mod_lacks_0 rfl (lv_at hl 0 rfl) ?_
  refine gf_Mod_handleRights B hP (by decide) L_Mod_22 d_Mod_lacks_1 ?_
  refine lv_bipush (v := 8) hx hb d_Mod_lacks_4 (by decide) ?_
  refine lv_aload_n hx hb d_Mod_lacks_6 rfl (lv_at hl 0 rfl) ?_
  refine gf_Mod_home B hP (by decide) L_Mod_25 d_Mod_lacks_7 ?_
  refine lv_aload_n hx hb d_Mod_lacks_10 rfl (lv_at hl 0 rfl) ?_
  refine gf_Mod_running B hP (by decide) L_Mod_137 d_Mod_lacks_11 ?_
  obtain ⟨j1, ej2, hj3, hn4, hF⟩ := vG_some hF
  refine il_Mhome B hP (by decide) hn4 ej2 d_Mod_lacks_14 ?_
  refine lv_imul hx hb d_Mod_lacks_15 ?_
  refine lv_iload_n hx hb d_Mod_lacks_16 rfl (lv_at hl 1 rfl) ?_
  refine lv_iadd hx hb d_Mod_lacks_17 ?_
  obtain ⟨j5, ej6, hj7, hn8, hF⟩ := vG_some hF
  refine il_MhandleRights B hP (by decide) hn8 ej6 d_Mod_lacks_18 ?_
  refine lv_iload_n hx hb d_Mod_lacks_19 rfl (lv_at hl 2 rfl) ?_
  refine lv_iand hx hb d_Mod_lacks_20 ?_
  refine lv_if_ne (tgt := 28) hx hb d_Mod_lacks_21 (by decide) (fun c9 => ?_) (fun c9 => ?_)
  · have hF := vIf c9 hF
    refine lv_iconst (v := 0) hx hb d_Mod_lacks_28 (by decide) ?_
    exact ed_rZ B hr hA hP hD hS (by decide) (vP hF) d_Mod_lacks_29
  · have hF := vIt c9 hF
    refine lv_iconst (v := 1) hx hb d_Mod_lacks_24 (by decide) ?_
    refine lv_goto (tgt := 29) hx hb d_Mod_lacks_25 (by decide) ?_
    exact ed_rZ B hr hA hP hD hS (by decide) (vP hF) d_Mod_lacks_29
set_option maxHeartbeats 4000000 in
set_option maxRecDepth 100000 in
theorem C_Mod_lacks (l : Launch) (D : va_G) (ad : Nat → Nat) (ca : Nat → ClassId) (x1 : Int32) (x2 : Int32) (σ : ed_S) (r : Int32) (σ' : ed_S) (hF : F_Mod_lacks x1 x2 σ = some (r, σ')) : ed_MI l y_Mod_lacks ws_Mod_lacks rm_Mod_lacks D ca (md_w ad ca) [.ref (ad (pMod 0)), .int x1, .int x2] σ r σ' := by
  refine ed_metI (cc := prog_10_method_8_code) (own := "ExecutiveDeskModel") (nL := 3) (ret := (some .boolean)) (by decide) rfl rfl (Nat.le_of_ble_eq_true rfl) ?_
  intro p e s m args below meth c A B hr hA
  exact T_Mod_lacks B hr hA x1 x2 σ  hF
abbrev ws_Mod_freeHandle : List Cond := Cond.code y_Mod_freeHandle prog_10_method_9_code 2 (some .int) :: ed_tb
abbrev rm_Mod_freeHandle : Room := { frames := 0, cells := 0, slots := 0, locals := 0 }
def F_Mod_freeHandle_2 : Nat → Int32 → ed_S → Option (Int32 × ed_S)
  | 0, _, _ => none
  | n + 1, x1, σ => (if 8 ≤ x1 then (some ((-1), σ)) else (vG (σ 44 0 0) 8 fun j2 => (vG ((8 * (σ 5 0 j2)) + x1) 32 fun j6 => (if 0 ≤ (σ 3 0 j6) then ((F_Mod_freeHandle_2  n) (x1 + 1) σ) else (some (x1, σ))))))
def F_Mod_freeHandle (σ : ed_S) : Option (Int32 × ed_S) := (F_Mod_freeHandle_2  ed_fu 0 σ)
set_option maxHeartbeats 4000000 in
set_option maxRecDepth 100000 in
theorem T_Mod_freeHandle_2 {r : Int32} {σ' : ed_S} (B : ed_B p s m args meth c prog_10_method_9_code "ExecutiveDeskModel" 2 D ca) (hr : meth.sig.returnType = (some .int)) (hA : ∀ q : Nat, s.heap.size ≤ q → A q) : ∀ (n : Nat) (x1 : Int32) (σ : ed_S), F_Mod_freeHandle_2  n x1 σ = some (r, σ') → ed_G p l e rm_Mod_freeHandle s m args below meth c D ca (md_w ad ca) A (ed_QI D ca (md_w ad ca) A below args s r σ') 2 2 [(0, .ref (ad (pMod 0))), (1, .int x1)] [] σ := by
  have hx := B.1
  have hb := B.2.1
  intro n
  induction n with
  | zero => intro x1 σ  hF; exact absurd hF (by intro h; cases h)
  | succ n kk2 =>
    intro x1 σ  hF H locs ls hP hD hS hl
    have hF : (if 8 ≤ x1 then (some ((-1), σ)) else (vG (σ 44 0 0) 8 fun j2 => (vG ((8 * (σ 5 0 j2)) + x1) 32 fun j6 => (if 0 ≤ (σ 3 0 j6) then ((F_Mod_freeHandle_2  n) (x1 + 1) σ) else (some (x1, σ)))))) = some (r, σ') := hF
    refine lv_iload_n hx hb d_Mod_freeHandle_2 rfl (lv_at hl 1 rfl) ?_
    refine lv_bipush (v := 8) hx hb d_Mod_freeHandle_3 (by decide) ?_
    refine lv_icmp_ge (tgt := 38) hx hb d_Mod_freeHandle_5 (by decide) (fun c1 => ?_) (fun c1 => ?_)
    · have hF := vIt c1 hF
      refine lv_iconst (v := (-1)) hx hb d_Mod_freeHandle_38 (by decide) ?_
      exact ed_rI B hr hA hP hD hS (vP hF) d_Mod_freeHandle_39
    · have hF := vIf c1 hF
      refine lv_aload_n hx hb d_Mod_freeHandle_8 rfl (lv_at hl 0 rfl) ?_
      refine gf_Mod_handleObject B hP (by decide) L_Mod_19 d_Mod_freeHandle_9 ?_
      refine lv_bipush (v := 8) hx hb d_Mod_freeHandle_12 (by decide) ?_
      refine lv_aload_n hx hb d_Mod_freeHandle_14 rfl (lv_at hl 0 rfl) ?_
      refine gf_Mod_home B hP (by decide) L_Mod_25 d_Mod_freeHandle_15 ?_
      refine lv_aload_n hx hb d_Mod_freeHandle_18 rfl (lv_at hl 0 rfl) ?_
      refine gf_Mod_running B hP (by decide) L_Mod_137 d_Mod_freeHandle_19 ?_
      obtain ⟨j2, ej3, hj4, hn5, hF⟩ := vG_some hF
      refine il_Mhome B hP (by decide) hn5 ej3 d_Mod_freeHandle_22 ?_
      refine lv_imul hx hb d_Mod_freeHandle_23 ?_
      refine lv_iload_n hx hb d_Mod_freeHandle_24 rfl (lv_at hl 1 rfl) ?_
      refine lv_iadd hx hb d_Mod_freeHandle_25 ?_
      obtain ⟨j6, ej7, hj8, hn9, hF⟩ := vG_some hF
      refine il_MhandleObject B hP (by decide) hn9 ej7 d_Mod_freeHandle_26 ?_
      refine lv_if_ge (tgt := 32) hx hb d_Mod_freeHandle_27 (by decide) (fun c10 => ?_) (fun c10 => ?_)
      · have hF := vIt c10 hF
        refine lv_iinc (v := (x1 + 1)) (lv' := [(1, .int (x1 + 1)), (0, .ref (ad (pMod 0)))]) hx hb d_Mod_freeHandle_32 hl (k := 1) rfl rfl (by decide) rfl (fun ls hl => ?_)
        refine lv_goto (tgt := 2) hx hb d_Mod_freeHandle_35 (by decide) ?_
        exact kk2 (x1 + 1) σ  hF _ _ _ hP hD hS (lv_sub hl [1, 0] rfl)
      · have hF := vIf c10 hF
        refine lv_iload_n hx hb d_Mod_freeHandle_30 rfl (lv_at hl 1 rfl) ?_
        exact ed_rI B hr hA hP hD hS (vP hF) d_Mod_freeHandle_31
set_option maxHeartbeats 4000000 in
set_option maxRecDepth 100000 in
theorem T_Mod_freeHandle {r : Int32} {σ' : ed_S} (B : ed_B p s m args meth c prog_10_method_9_code "ExecutiveDeskModel" 2 D ca) (hr : meth.sig.returnType = (some .int)) (hA : ∀ q : Nat, s.heap.size ≤ q → A q) : ∀ (σ : ed_S), F_Mod_freeHandle   σ = some (r, σ') → ed_G p l e rm_Mod_freeHandle s m args below meth c D ca (md_w ad ca) A (ed_QI D ca (md_w ad ca) A below args s r σ') 2 0 [(0, .ref (ad (pMod 0)))] [] σ := by
  have hx := B.1
  have hb := B.2.1
  intro  σ  hF H locs ls hP hD hS hl
  have hF : (F_Mod_freeHandle_2  ed_fu 0 σ) = some (r, σ') := hF
  refine lv_iconst (v := 0) hx hb d_Mod_freeHandle_0 (by decide) ?_
  refine lv_istore_n (lv' := [(1, .int 0), (0, .ref (ad (pMod 0)))]) hx hb d_Mod_freeHandle_1 rfl hl (by decide) rfl (fun ls hl => ?_)
  exact T_Mod_freeHandle_2 B hr hA  ed_fu 0 σ  hF _ _ _ hP hD hS (lv_sub hl [1, 0] rfl)
set_option maxHeartbeats 4000000 in
set_option maxRecDepth 100000 in
theorem C_Mod_freeHandle (l : Launch) (D : va_G) (ad : Nat → Nat) (ca : Nat → ClassId) (σ : ed_S) (r : Int32) (σ' : ed_S) (hF : F_Mod_freeHandle  σ = some (r, σ')) : ed_MI l y_Mod_freeHandle ws_Mod_freeHandle rm_Mod_freeHandle D ca (md_w ad ca) [.ref (ad (pMod 0))] σ r σ' := by
  refine ed_metI (cc := prog_10_method_9_code) (own := "ExecutiveDeskModel") (nL := 2) (ret := (some .int)) (by decide) rfl rfl (Nat.le_of_ble_eq_true rfl) ?_
  intro p e s m args below meth c A B hr hA
  exact T_Mod_freeHandle B hr hA  σ  hF
abbrev ws_Mod_named : List Cond := Cond.code y_Mod_named prog_10_method_10_code 3 (some .int) :: ed_tb
abbrev rm_Mod_named : Room := { frames := 0, cells := 0, slots := 0, locals := 0 }
def F_Mod_named_2 : Nat → Int32 → Int32 → ed_S → Option (Int32 × ed_S)
  | 0, _, _, _ => none
  | n + 1, x1, x2, σ => (if 16 ≤ x2 then (some ((-1), σ)) else (vG x2 16 fun j2 => (if (σ 19 0 j2) = 0 then ((F_Mod_named_2  n) x1 (x2 + 1) σ) else (if x1 < 0 then ((F_Mod_named_2  n) x1 (x2 + 1) σ) else (vG x2 16 fun j8 => (if (σ 23 0 j8) = x1 then (some (x2, σ)) else ((F_Mod_named_2  n) x1 (x2 + 1) σ)))))))
def F_Mod_named (x1 : Int32) (σ : ed_S) : Option (Int32 × ed_S) := (F_Mod_named_2  ed_fu x1 0 σ)
set_option maxHeartbeats 4000000 in
set_option maxRecDepth 100000 in
theorem T_Mod_named_2 {r : Int32} {σ' : ed_S} (B : ed_B p s m args meth c prog_10_method_10_code "ExecutiveDeskModel" 3 D ca) (hr : meth.sig.returnType = (some .int)) (hA : ∀ q : Nat, s.heap.size ≤ q → A q) : ∀ (n : Nat) (x1 : Int32) (x2 : Int32) (σ : ed_S), F_Mod_named_2  n x1 x2 σ = some (r, σ') → ed_G p l e rm_Mod_named s m args below meth c D ca (md_w ad ca) A (ed_QI D ca (md_w ad ca) A below args s r σ') 3 2 [(0, .ref (ad (pMod 0))), (1, .int x1), (2, .int x2)] [] σ := by
  have hx := B.1
  have hb := B.2.1
  intro n
  induction n with
  | zero => intro x1 x2 σ  hF; exact absurd hF (by intro h; cases h)
  | succ n kk2 =>
    intro x1 x2 σ  hF H locs ls hP hD hS hl
    have hF : (if 16 ≤ x2 then (some ((-1), σ)) else (vG x2 16 fun j2 => (if (σ 19 0 j2) = 0 then ((F_Mod_named_2  n) x1 (x2 + 1) σ) else (if x1 < 0 then ((F_Mod_named_2  n) x1 (x2 + 1) σ) else (vG x2 16 fun j8 => (if (σ 23 0 j8) = x1 then (some (x2, σ)) else ((F_Mod_named_2  n) x1 (x2 + 1) σ))))))) = some (r, σ') := hF
    refine lv_iload_n hx hb d_Mod_named_2 rfl (lv_at hl 2 rfl) ?_
    refine lv_bipush (v := 16) hx hb d_Mod_named_3 (by decide) ?_
    refine lv_icmp_ge (tgt := 39) hx hb d_Mod_named_5 (by decide) (fun c1 => ?_) (fun c1 => ?_)
    · have hF := vIt c1 hF
      refine lv_iconst (v := (-1)) hx hb d_Mod_named_39 (by decide) ?_
      exact ed_rI B hr hA hP hD hS (vP hF) d_Mod_named_40
    · have hF := vIf c1 hF
      refine lv_aload_n hx hb d_Mod_named_8 rfl (lv_at hl 0 rfl) ?_
      refine gf_Mod_there B hP (by decide) L_Mod_67 d_Mod_named_9 ?_
      refine lv_iload_n hx hb d_Mod_named_12 rfl (lv_at hl 2 rfl) ?_
      obtain ⟨j2, ej3, hj4, hn5, hF⟩ := vG_some hF
      refine il_Mthere B hP (by decide) hn5 ej3 d_Mod_named_13 ?_
      refine lv_if_eq (tgt := 33) hx hb d_Mod_named_14 (by decide) (fun c6 => ?_) (fun c6 => ?_)
      · have hF := vIt c6 hF
        refine lv_iinc (v := (x2 + 1)) (lv' := [(2, .int (x2 + 1)), (0, .ref (ad (pMod 0))), (1, .int x1)]) hx hb d_Mod_named_33 hl (k := 2) rfl rfl (by decide) rfl (fun ls hl => ?_)
        refine lv_goto (tgt := 2) hx hb d_Mod_named_36 (by decide) ?_
        exact kk2 x1 (x2 + 1) σ  hF _ _ _ hP hD hS (lv_sub hl [1, 2, 0] rfl)
      · have hF := vIf c6 hF
        refine lv_iload_n hx hb d_Mod_named_17 rfl (lv_at hl 1 rfl) ?_
        refine lv_if_lt (tgt := 33) hx hb d_Mod_named_18 (by decide) (fun c7 => ?_) (fun c7 => ?_)
        · have hF := vIt c7 hF
          refine lv_iinc (v := (x2 + 1)) (lv' := [(2, .int (x2 + 1)), (0, .ref (ad (pMod 0))), (1, .int x1)]) hx hb d_Mod_named_33 hl (k := 2) rfl rfl (by decide) rfl (fun ls hl => ?_)
          refine lv_goto (tgt := 2) hx hb d_Mod_named_36 (by decide) ?_
          exact kk2 x1 (x2 + 1) σ  hF _ _ _ hP hD hS (lv_sub hl [1, 2, 0] rfl)
        · have hF := vIf c7 hF
          refine lv_aload_n hx hb d_Mod_named_21 rfl (lv_at hl 0 rfl) ?_
          refine gf_Mod_name B hP (by decide) L_Mod_80 d_Mod_named_22 ?_
          refine lv_iload_n hx hb d_Mod_named_25 rfl (lv_at hl 2 rfl) ?_
          obtain ⟨j8, ej9, hj10, hn11, hF⟩ := vG_some hF
          refine il_Mname B hP (by decide) hn11 ej9 d_Mod_named_26 ?_
          refine lv_iload_n hx hb d_Mod_named_27 rfl (lv_at hl 1 rfl) ?_
          refine lv_icmp_ne (tgt := 33) hx hb d_Mod_named_28 (by decide) (fun c12 => ?_) (fun c12 => ?_)
          · have hF := vIf c12 hF
            refine lv_iinc (v := (x2 + 1)) (lv' := [(2, .int (x2 + 1)), (0, .ref (ad (pMod 0))), (1, .int x1)]) hx hb d_Mod_named_33 hl (k := 2) rfl rfl (by decide) rfl (fun ls hl => ?_)
            refine lv_goto (tgt := 2) hx hb d_Mod_named_36 (by decide) ?_
            exact kk2 x1 (x2 + 1) σ  hF _ _ _ hP hD hS (lv_sub hl [1, 2, 0] rfl)
          · have hF := vIt c12 hF
            refine lv_iload_n hx hb d_Mod_named_31 rfl (lv_at hl 2 rfl) ?_
            exact ed_rI B hr hA hP hD hS (vP hF) d_Mod_named_32
set_option maxHeartbeats 4000000 in
set_option maxRecDepth 100000 in
theorem T_Mod_named {r : Int32} {σ' : ed_S} (B : ed_B p s m args meth c prog_10_method_10_code "ExecutiveDeskModel" 3 D ca) (hr : meth.sig.returnType = (some .int)) (hA : ∀ q : Nat, s.heap.size ≤ q → A q) : ∀ (x1 : Int32) (σ : ed_S), F_Mod_named  x1 σ = some (r, σ') → ed_G p l e rm_Mod_named s m args below meth c D ca (md_w ad ca) A (ed_QI D ca (md_w ad ca) A below args s r σ') 3 0 [(0, .ref (ad (pMod 0))), (1, .int x1)] [] σ := by
  have hx := B.1
  have hb := B.2.1
  intro x1 σ  hF H locs ls hP hD hS hl
  have hF : (F_Mod_named_2  ed_fu x1 0 σ) = some (r, σ') := hF
  refine lv_iconst (v := 0) hx hb d_Mod_named_0 (by decide) ?_
  refine lv_istore_n (lv' := [(2, .int 0), (0, .ref (ad (pMod 0))), (1, .int x1)]) hx hb d_Mod_named_1 rfl hl (by decide) rfl (fun ls hl => ?_)
  exact T_Mod_named_2 B hr hA  ed_fu x1 0 σ  hF _ _ _ hP hD hS (lv_sub hl [1, 2, 0] rfl)
set_option maxHeartbeats 4000000 in
set_option maxRecDepth 100000 in
theorem C_Mod_named (l : Launch) (D : va_G) (ad : Nat → Nat) (ca : Nat → ClassId) (x1 : Int32) (σ : ed_S) (r : Int32) (σ' : ed_S) (hF : F_Mod_named x1 σ = some (r, σ')) : ed_MI l y_Mod_named ws_Mod_named rm_Mod_named D ca (md_w ad ca) [.ref (ad (pMod 0)), .int x1] σ r σ' := by
  refine ed_metI (cc := prog_10_method_10_code) (own := "ExecutiveDeskModel") (nL := 3) (ret := (some .int)) (by decide) rfl rfl (Nat.le_of_ble_eq_true rfl) ?_
  intro p e s m args below meth c A B hr hA
  exact T_Mod_named B hr hA x1 σ  hF
abbrev ws_Mod_process : List Cond := Cond.code y_Mod_process prog_10_method_11_code 2 (some .int) :: ed_tb
abbrev rm_Mod_process : Room := { frames := 1, cells := 0, slots := 0, locals := 22 }
def F_Mod_process (x1 : Int32) (σ : ed_S) : Option (Int32 × ed_S) := (vB2 (F_Mod_is x1 0 255 σ) fun r3 σ1 => (if r3 = 0 then (some ((-1), σ1)) else (if (σ1 42 0 0) = 4 then (some ((-2), σ1)) else (vG (σ1 42 0 0) 4 fun j6 => vL (ed_st σ1 0 0 j6 x1) fun σ10 => (vL (ed_st σ10 42 0 0 ((σ10 42 0 0) + 1)) fun σ12 => (some ((σ10 42 0 0), σ12)))))))
set_option maxHeartbeats 4000000 in
set_option maxRecDepth 100000 in
theorem T_Mod_process {r : Int32} {σ' : ed_S} (B : ed_B p s m args meth c prog_10_method_11_code "ExecutiveDeskModel" 2 D ca) (hr : meth.sig.returnType = (some .int)) (hA : ∀ q : Nat, s.heap.size ≤ q → A q) : ∀ (x1 : Int32) (σ : ed_S), F_Mod_process  x1 σ = some (r, σ') → ed_G p l e rm_Mod_process s m args below meth c D ca (md_w ad ca) A (ed_QI D ca (md_w ad ca) A below args s r σ') 2 0 [(0, .ref (ad (pMod 0))), (1, .int x1)] [] σ := by
  have hx := B.1
  have hb := B.2.1
  intro x1 σ  hF H locs ls hP hD hS hl
  have hF : (vB2 (F_Mod_is x1 0 255 σ) fun r3 σ1 => (if r3 = 0 then (some ((-1), σ1)) else (if (σ1 42 0 0) = 4 then (some ((-2), σ1)) else (vG (σ1 42 0 0) 4 fun j6 => vL (ed_st σ1 0 0 j6 x1) fun σ10 => (vL (ed_st σ10 42 0 0 ((σ10 42 0 0) + 1)) fun σ12 => (some ((σ10 42 0 0), σ12))))))) = some (r, σ') := hF
  refine lv_iload_n hx hb d_Mod_process_0 rfl (lv_at hl 1 rfl) ?_
  refine lv_iconst (v := 0) hx hb d_Mod_process_1 (by decide) ?_
  refine lv_sipush (v := 255) hx hb d_Mod_process_2 (by decide) ?_
  obtain ⟨r3, σ1, q2, hF⟩ := vB2_some hF
  refine ed_csI (As := [.int x1, .int 0, .int 255]) (rest := []) B hP hD hS hA (C_Mod_is l D ad ca x1 0 255 σ r3 σ1  q2) me_Mod_is st_Mod_is L_Mod_157 ⟨rfl, rfl⟩ ⟨Nat.le_of_ble_eq_true rfl, Nat.le_of_ble_eq_true rfl⟩ rfl rfl hl.1 (lv_room (Nat.le_of_ble_eq_true rfl)) d_Mod_process_5 (fun H locs hP hD hS => ?_)
  refine lv_if_ne (tgt := 13) hx hb d_Mod_process_8 (by decide) (fun c4 => ?_) (fun c4 => ?_)
  · have hF := vIf c4 hF
    refine lv_aload_n hx hb d_Mod_process_13 rfl (lv_at hl 0 rfl) ?_
    refine gf_Mod_processes B hP (by decide) L_Mod_161 d_Mod_process_14 ?_
    refine lv_iconst (v := 4) hx hb d_Mod_process_17 (by decide) ?_
    refine lv_icmp_ne (tgt := 24) hx hb d_Mod_process_18 (by decide) (fun c5 => ?_) (fun c5 => ?_)
    · have hF := vIf c5 hF
      refine lv_aload_n hx hb d_Mod_process_24 rfl (lv_at hl 0 rfl) ?_
      refine gf_Mod_groups B hP (by decide) L_Mod_7 d_Mod_process_25 ?_
      refine lv_aload_n hx hb d_Mod_process_28 rfl (lv_at hl 0 rfl) ?_
      refine gf_Mod_processes B hP (by decide) L_Mod_161 d_Mod_process_29 ?_
      refine lv_iload_n hx hb d_Mod_process_32 rfl (lv_at hl 1 rfl) ?_
      obtain ⟨j6, ej7, hj8, hn9, hF⟩ := vG_some hF
      obtain ⟨σ10, e11, hF⟩ := vL_some hF
      refine is_Mgroups B hP hD hS (by decide) hn9 ej7 e11 d_Mod_process_33 (fun H locs hP hD hS => ?_)
      refine lv_aload_n hx hb d_Mod_process_34 rfl (lv_at hl 0 rfl) ?_
      refine lv_dup hx hb d_Mod_process_35 rfl ?_
      refine gf_Mod_processes B hP (by decide) L_Mod_161 d_Mod_process_36 ?_
      refine lv_dup_x1 hx hb d_Mod_process_39 rfl rfl ?_
      refine lv_iconst (v := 1) hx hb d_Mod_process_40 (by decide) ?_
      refine lv_iadd hx hb d_Mod_process_41 ?_
      obtain ⟨σ12, e13, hF⟩ := vL_some hF
      refine pf_Mod_processes B hP hD hS (by decide) e13 L_Mod_161 d_Mod_process_42 (fun H locs hP hD hS => ?_)
      exact ed_rI B hr hA hP hD hS (vP hF) d_Mod_process_45
    · have hF := vIt c5 hF
      refine lv_bipush (v := (-2)) hx hb d_Mod_process_21 (by decide) ?_
      exact ed_rI B hr hA hP hD hS (vP hF) d_Mod_process_23
  · have hF := vIt c4 hF
    refine lv_iconst (v := (-1)) hx hb d_Mod_process_11 (by decide) ?_
    exact ed_rI B hr hA hP hD hS (vP hF) d_Mod_process_12
set_option maxHeartbeats 4000000 in
set_option maxRecDepth 100000 in
theorem C_Mod_process (l : Launch) (D : va_G) (ad : Nat → Nat) (ca : Nat → ClassId) (x1 : Int32) (σ : ed_S) (r : Int32) (σ' : ed_S) (hF : F_Mod_process x1 σ = some (r, σ')) : ed_MI l y_Mod_process ws_Mod_process rm_Mod_process D ca (md_w ad ca) [.ref (ad (pMod 0)), .int x1] σ r σ' := by
  refine ed_metI (cc := prog_10_method_11_code) (own := "ExecutiveDeskModel") (nL := 2) (ret := (some .int)) (by decide) rfl rfl (Nat.le_of_ble_eq_true rfl) ?_
  intro p e s m args below meth c A B hr hA
  exact T_Mod_process B hr hA x1 σ  hF
end EDT
