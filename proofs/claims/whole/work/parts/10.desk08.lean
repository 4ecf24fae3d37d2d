section EDT
variable {p : Program} {l : Launch} {e : Env} {s : State} {m : MethodId} {args : Array Value} {below : List Frame} {meth : Method} {c : Code} {D : va_G} {ad : Nat → Nat} {ca : Nat → ClassId} {A : Nat → Prop}
abbrev ws_Desk_tick : List Cond := Cond.code y_Desk_tick prog_1_method_16_code 3 (some .int) :: ed_tb
abbrev rm_Desk_tick : Room := { frames := 6, cells := 0, slots := 0, locals := 134 }
def F_Desk_tick_14 : Nat → Int32 → Int32 → ed_S → Option (Int32 × ed_S)
  | 0, _, _, _ => none
  | n + 1, x1, x2, σ => (if x1 ≤ x2 then (some ((σ 3 0 0), σ)) else (vB1 (F_Desk_passOneTick  σ) fun σ2 => ((F_Desk_tick_14  n) x1 (x2 + 1) σ2)))
def F_Desk_tick (x1 : Int32) (σ : ed_S) : Option (Int32 × ed_S) := (vB2 (F_Desk_isWithin x1 1 9 σ) fun r3 σ1 => (if r3 = 0 then (some ((-1), σ1)) else (F_Desk_tick_14  ed_fu x1 0 σ1)))
set_option maxHeartbeats 4000000 in
set_option maxRecDepth 100000 in
theorem T_Desk_tick_14 {r : Int32} {σ' : ed_S} (B : ed_B p s m args meth c prog_1_method_16_code "ExecutiveDesk" 3 D ca) (hr : meth.sig.returnType = (some .int)) (hA : ∀ q : Nat, s.heap.size ≤ q → A q) : ∀ (n : Nat) (x1 : Int32) (x2 : Int32) (σ : ed_S), F_Desk_tick_14  n x1 x2 σ = some (r, σ') → ed_G p l e rm_Desk_tick s m args below meth c D ca (ed_w ad ca) A (ed_QI D ca (ed_w ad ca) A below args s r σ') 3 14 [(0, .ref (ad (pDesk 0))), (1, .int x1), (2, .int x2)] [] σ := by
  have hx := B.1
  have hb := B.2.1
  intro n
  induction n with
  | zero => intro x1 x2 σ  hF; exact absurd hF (by intro h; cases h)
  | succ n kk14 =>
    intro x1 x2 σ  hF H locs ls hP hD hS hl
    have hF : (if x1 ≤ x2 then (some ((σ 3 0 0), σ)) else (vB1 (F_Desk_passOneTick  σ) fun σ2 => ((F_Desk_tick_14  n) x1 (x2 + 1) σ2))) = some (r, σ') := hF
    refine lv_iload_n hx hb d_Desk_tick_14 rfl (lv_at hl 2 rfl) ?_
    refine lv_iload_n hx hb d_Desk_tick_15 rfl (lv_at hl 1 rfl) ?_
    refine lv_icmp_ge (tgt := 29) hx hb d_Desk_tick_16 (by decide) (fun c1 => ?_) (fun c1 => ?_)
    · have hF := vIt c1 hF
      refine lv_aload_n hx hb d_Desk_tick_29 rfl (lv_at hl 0 rfl) ?_
      refine gf_Desk_clock B hP (by decide) L_Desk_249 d_Desk_tick_30 ?_
      exact ed_rI B hr hA hP hD hS (vP hF) d_Desk_tick_33
    · have hF := vIf c1 hF
      refine lv_aload_n hx hb d_Desk_tick_19 rfl (lv_at hl 0 rfl) ?_
      obtain ⟨σ2, q3, hF⟩ := vB1_some hF
      refine ed_cvV (As := []) (rest := []) B hP hD hS hA (C_Desk_passOneTick l D ad ca  σ σ2  q3) me_Desk_passOneTick mv_Desk_passOneTick L_Desk_246 (ed_rc_Desk B hP (by decide)) ⟨rfl, rfl⟩ ⟨Nat.le_of_ble_eq_true rfl, Nat.le_of_ble_eq_true rfl⟩ rfl rfl hl.1 (lv_room (Nat.le_of_ble_eq_true rfl)) d_Desk_tick_20 (fun H locs hP hD hS => ?_)
      refine lv_iinc (v := (x2 + 1)) (lv' := [(2, .int (x2 + 1)), (0, .ref (ad (pDesk 0))), (1, .int x1)]) hx hb d_Desk_tick_23 hl (k := 2) rfl rfl (by decide) rfl (fun ls hl => ?_)
      refine lv_goto (tgt := 14) hx hb d_Desk_tick_26 (by decide) ?_
      exact kk14 x1 (x2 + 1) σ2  hF _ _ _ hP hD hS (lv_sub hl [1, 2, 0] rfl)
set_option maxHeartbeats 4000000 in
set_option maxRecDepth 100000 in
theorem T_Desk_tick {r : Int32} {σ' : ed_S} (B : ed_B p s m args meth c prog_1_method_16_code "ExecutiveDesk" 3 D ca) (hr : meth.sig.returnType = (some .int)) (hA : ∀ q : Nat, s.heap.size ≤ q → A q) : ∀ (x1 : Int32) (σ : ed_S), F_Desk_tick  x1 σ = some (r, σ') → ed_G p l e rm_Desk_tick s m args below meth c D ca (ed_w ad ca) A (ed_QI D ca (ed_w ad ca) A below args s r σ') 3 0 [(0, .ref (ad (pDesk 0))), (1, .int x1)] [] σ := by
  have hx := B.1
  have hb := B.2.1
  intro x1 σ  hF H locs ls hP hD hS hl
  have hF : (vB2 (F_Desk_isWithin x1 1 9 σ) fun r3 σ1 => (if r3 = 0 then (some ((-1), σ1)) else (F_Desk_tick_14  ed_fu x1 0 σ1))) = some (r, σ') := hF
  refine lv_iload_n hx hb d_Desk_tick_0 rfl (lv_at hl 1 rfl) ?_
  refine lv_iconst (v := 1) hx hb d_Desk_tick_1 (by decide) ?_
  refine lv_bipush (v := 9) hx hb d_Desk_tick_2 (by decide) ?_
  obtain ⟨r3, σ1, q2, hF⟩ := vB2_some hF
  refine ed_csI (As := [.int x1, .int 1, .int 9]) (rest := []) B hP hD hS hA (C_Desk_isWithin l D ad ca x1 1 9 σ r3 σ1  q2) me_Desk_isWithin st_Desk_isWithin L_Desk_54 ⟨rfl, rfl⟩ ⟨Nat.le_of_ble_eq_true rfl, Nat.le_of_ble_eq_true rfl⟩ rfl rfl hl.1 (lv_room (Nat.le_of_ble_eq_true rfl)) d_Desk_tick_4 (fun H locs hP hD hS => ?_)
  refine lv_if_ne (tgt := 12) hx hb d_Desk_tick_7 (by decide) (fun c4 => ?_) (fun c4 => ?_)
  · have hF := vIf c4 hF
    refine lv_iconst (v := 0) hx hb d_Desk_tick_12 (by decide) ?_
    refine lv_istore_n (lv' := [(2, .int 0), (0, .ref (ad (pDesk 0))), (1, .int x1)]) hx hb d_Desk_tick_13 rfl hl (by decide) rfl (fun ls hl => ?_)
    exact T_Desk_tick_14 B hr hA  ed_fu x1 0 σ1  hF _ _ _ hP hD hS (lv_sub hl [1, 2, 0] rfl)
  · have hF := vIt c4 hF
    refine lv_iconst (v := (-1)) hx hb d_Desk_tick_10 (by decide) ?_
    exact ed_rI B hr hA hP hD hS (vP hF) d_Desk_tick_11
set_option maxHeartbeats 4000000 in
set_option maxRecDepth 100000 in
theorem C_Desk_tick (l : Launch) (D : va_G) (ad : Nat → Nat) (ca : Nat → ClassId) (x1 : Int32) (σ : ed_S) (r : Int32) (σ' : ed_S) (hF : F_Desk_tick x1 σ = some (r, σ')) : ed_MI l y_Desk_tick ws_Desk_tick rm_Desk_tick D ca (ed_w ad ca) [.ref (ad (pDesk 0)), .int x1] σ r σ' := by
  refine ed_metI (cc := prog_1_method_16_code) (own := "ExecutiveDesk") (nL := 3) (ret := (some .int)) (by decide) rfl rfl (Nat.le_of_ble_eq_true rfl) ?_
  intro p e s m args below meth c A B hr hA
  exact T_Desk_tick B hr hA x1 σ  hF
abbrev ws_Desk_actor : List Cond := Cond.code y_Desk_actor prog_1_method_17_code 4 (some .int) :: ed_tb
abbrev rm_Desk_actor : Room := { frames := 1, cells := 0, slots := 0, locals := 22 }
def F_Desk_actor (x1 : Int32) (x2 : Int32) (σ : ed_S) : Option (Int32 × ed_S) := (vB2 (F_Desk_isWithin x1 0 ((σ 1 0 0) - 1) σ) fun r3 σ1 => (if r3 = 0 then (some ((-1), σ1)) else (vG x1 8 fun j5 => (if x2 = 0 then (some ((σ1 10 j5 0), σ1)) else (if x2 = 1 then (some ((σ1 8 j5 0), σ1)) else (if x2 = 2 then (some ((σ1 9 j5 0), σ1)) else (if x2 = 3 then (some ((σ1 11 j5 0), σ1)) else (if x2 = 4 then (some ((σ1 18 j5 0), σ1)) else (if x2 = 5 then (some ((σ1 12 j5 0), σ1)) else (if x2 = 6 then (some ((σ1 13 j5 0), σ1)) else (if x2 = 7 then (some ((σ1 14 j5 0), σ1)) else (if x2 = 8 then (if (σ1 10 j5 0) = 2 then (if (σ1 17 j5 0) = (-1) then (some ((-1), σ1)) else (some (((σ1 17 j5 0) - (σ1 3 0 0)), σ1))) else (some ((-1), σ1))) else (some ((-1), σ1))))))))))))))
set_option maxHeartbeats 4000000 in
set_option maxRecDepth 100000 in
theorem T_Desk_actor {r : Int32} {σ' : ed_S} (B : ed_B p s m args meth c prog_1_method_17_code "ExecutiveDesk" 4 D ca) (hr : meth.sig.returnType = (some .int)) (hA : ∀ q : Nat, s.heap.size ≤ q → A q) : ∀ (x1 : Int32) (x2 : Int32) (σ : ed_S), F_Desk_actor  x1 x2 σ = some (r, σ') → ed_G p l e rm_Desk_actor s m args below meth c D ca (ed_w ad ca) A (ed_QI D ca (ed_w ad ca) A below args s r σ') 4 0 [(0, .ref (ad (pDesk 0))), (1, .int x1), (2, .int x2)] [] σ := by
  have hx := B.1
  have hb := B.2.1
  intro x1 x2 σ  hF H locs ls hP hD hS hl
  have hF : (vB2 (F_Desk_isWithin x1 0 ((σ 1 0 0) - 1) σ) fun r3 σ1 => (if r3 = 0 then (some ((-1), σ1)) else (vG x1 8 fun j5 => (if x2 = 0 then (some ((σ1 10 j5 0), σ1)) else (if x2 = 1 then (some ((σ1 8 j5 0), σ1)) else (if x2 = 2 then (some ((σ1 9 j5 0), σ1)) else (if x2 = 3 then (some ((σ1 11 j5 0), σ1)) else (if x2 = 4 then (some ((σ1 18 j5 0), σ1)) else (if x2 = 5 then (some ((σ1 12 j5 0), σ1)) else (if x2 = 6 then (some ((σ1 13 j5 0), σ1)) else (if x2 = 7 then (some ((σ1 14 j5 0), σ1)) else (if x2 = 8 then (if (σ1 10 j5 0) = 2 then (if (σ1 17 j5 0) = (-1) then (some ((-1), σ1)) else (some (((σ1 17 j5 0) - (σ1 3 0 0)), σ1))) else (some ((-1), σ1))) else (some ((-1), σ1)))))))))))))) = some (r, σ') := hF
  refine lv_iload_n hx hb d_Desk_actor_0 rfl (lv_at hl 1 rfl) ?_
  refine lv_iconst (v := 0) hx hb d_Desk_actor_1 (by decide) ?_
  refine lv_aload_n hx hb d_Desk_actor_2 rfl (lv_at hl 0 rfl) ?_
  refine gf_Desk_threadCount B hP (by decide) L_Desk_69 d_Desk_actor_3 ?_
  refine lv_iconst (v := 1) hx hb d_Desk_actor_6 (by decide) ?_
  refine lv_isub hx hb d_Desk_actor_7 ?_
  obtain ⟨r3, σ1, q2, hF⟩ := vB2_some hF
  refine ed_csI (As := [.int x1, .int 0, .int ((σ 1 0 0) - 1)]) (rest := []) B hP hD hS hA (C_Desk_isWithin l D ad ca x1 0 ((σ 1 0 0) - 1) σ r3 σ1  q2) me_Desk_isWithin st_Desk_isWithin L_Desk_54 ⟨rfl, rfl⟩ ⟨Nat.le_of_ble_eq_true rfl, Nat.le_of_ble_eq_true rfl⟩ rfl rfl hl.1 (lv_room (Nat.le_of_ble_eq_true rfl)) d_Desk_actor_8 (fun H locs hP hD hS => ?_)
  refine lv_if_ne (tgt := 16) hx hb d_Desk_actor_11 (by decide) (fun c4 => ?_) (fun c4 => ?_)
  · have hF := vIf c4 hF
    refine lv_aload_n hx hb d_Desk_actor_16 rfl (lv_at hl 0 rfl) ?_
    refine gf_Desk_threads B hP (by decide) L_Desk_26 d_Desk_actor_17 ?_
    refine lv_iload_n hx hb d_Desk_actor_20 rfl (lv_at hl 1 rfl) ?_
    obtain ⟨j5, ej6, hj7, hn8, hF⟩ := vG_some hF
    refine al_AThr B hP (by decide) hn8 ej6 hj7 d_Desk_actor_21 ?_
    refine lv_astore_n (lv' := [(3, .ref (ad (pThr j5))), (0, .ref (ad (pDesk 0))), (1, .int x1), (2, .int x2)]) hx hb d_Desk_actor_22 rfl hl (by decide) rfl (fun ls hl => ?_)
    refine lv_iload_n hx hb d_Desk_actor_23 rfl (lv_at hl 3 rfl) ?_
    rcases Decidable.em (x2 = 0) with c9 | c9
    · have hF := vIt c9 hF
      refine lv_tableIn (off := 52) (tgt := 76) hx hb d_Desk_actor_24 (by rw [c9]; decide) (by rw [c9]; decide) (by rw [c9]; rfl) (by decide) ?_
      refine lv_aload_n hx hb d_Desk_actor_76 rfl (lv_at hl 0 rfl) ?_
      refine gf_Thr_state B hP hj7 L_Desk_192 d_Desk_actor_77 ?_
      exact ed_rI B hr hA hP hD hS (vP hF) d_Desk_actor_80
    have hF := vIf c9 hF
    rcases Decidable.em (x2 = 1) with c10 | c10
    · have hF := vIt c10 hF
      refine lv_tableIn (off := 57) (tgt := 81) hx hb d_Desk_actor_24 (by rw [c10]; decide) (by rw [c10]; decide) (by rw [c10]; rfl) (by decide) ?_
      refine lv_aload_n hx hb d_Desk_actor_81 rfl (lv_at hl 0 rfl) ?_
      refine gf_Thr_process B hP hj7 L_Desk_78 d_Desk_actor_82 ?_
      exact ed_rI B hr hA hP hD hS (vP hF) d_Desk_actor_85
    have hF := vIf c10 hF
    rcases Decidable.em (x2 = 2) with c11 | c11
    · have hF := vIt c11 hF
      refine lv_tableIn (off := 62) (tgt := 86) hx hb d_Desk_actor_24 (by rw [c11]; decide) (by rw [c11]; decide) (by rw [c11]; rfl) (by decide) ?_
      refine lv_aload_n hx hb d_Desk_actor_86 rfl (lv_at hl 0 rfl) ?_
      refine gf_Thr_priority B hP hj7 L_Desk_83 d_Desk_actor_87 ?_
      exact ed_rI B hr hA hP hD hS (vP hF) d_Desk_actor_90
    have hF := vIf c11 hF
    rcases Decidable.em (x2 = 3) with c12 | c12
    · have hF := vIt c12 hF
      refine lv_tableIn (off := 67) (tgt := 91) hx hb d_Desk_actor_24 (by rw [c12]; decide) (by rw [c12]; decide) (by rw [c12]; rfl) (by decide) ?_
      refine lv_aload_n hx hb d_Desk_actor_91 rfl (lv_at hl 0 rfl) ?_
      refine gf_Thr_result B hP hj7 L_Desk_252 d_Desk_actor_92 ?_
      exact ed_rI B hr hA hP hD hS (vP hF) d_Desk_actor_95
    have hF := vIf c12 hF
    rcases Decidable.em (x2 = 4) with c13 | c13
    · have hF := vIt c13 hF
      refine lv_tableIn (off := 72) (tgt := 96) hx hb d_Desk_actor_24 (by rw [c13]; decide) (by rw [c13]; decide) (by rw [c13]; rfl) (by decide) ?_
      refine lv_aload_n hx hb d_Desk_actor_96 rfl (lv_at hl 0 rfl) ?_
      refine gf_Thr_calls B hP hj7 L_Desk_178 d_Desk_actor_97 ?_
      refine gf_Row_size B hP (ed_b0 hj7) L_Desk_181 d_Desk_actor_100 ?_
      exact ed_rI B hr hA hP hD hS (vP hF) d_Desk_actor_103
    have hF := vIf c13 hF
    rcases Decidable.em (x2 = 5) with c14 | c14
    · have hF := vIt c14 hF
      refine lv_tableIn (off := 80) (tgt := 104) hx hb d_Desk_actor_24 (by rw [c14]; decide) (by rw [c14]; decide) (by rw [c14]; rfl) (by decide) ?_
      refine lv_aload_n hx hb d_Desk_actor_104 rfl (lv_at hl 0 rfl) ?_
      refine gf_Thr_delivered B hP hj7 L_Desk_255 d_Desk_actor_105 ?_
      exact ed_rI B hr hA hP hD hS (vP hF) d_Desk_actor_108
    have hF := vIf c14 hF
    rcases Decidable.em (x2 = 6) with c15 | c15
    · have hF := vIt c15 hF
      refine lv_tableIn (off := 85) (tgt := 109) hx hb d_Desk_actor_24 (by rw [c15]; decide) (by rw [c15]; decide) (by rw [c15]; rfl) (by decide) ?_
      refine lv_aload_n hx hb d_Desk_actor_109 rfl (lv_at hl 0 rfl) ?_
      refine gf_Thr_latestCall B hP hj7 L_Desk_258 d_Desk_actor_110 ?_
      exact ed_rI B hr hA hP hD hS (vP hF) d_Desk_actor_113
    have hF := vIf c15 hF
    rcases Decidable.em (x2 = 7) with c16 | c16
    · have hF := vIt c16 hF
      refine lv_tableIn (off := 90) (tgt := 114) hx hb d_Desk_actor_24 (by rw [c16]; decide) (by rw [c16]; decide) (by rw [c16]; rfl) (by decide) ?_
      refine lv_aload_n hx hb d_Desk_actor_114 rfl (lv_at hl 0 rfl) ?_
      refine gf_Thr_used B hP hj7 L_Desk_261 d_Desk_actor_115 ?_
      exact ed_rI B hr hA hP hD hS (vP hF) d_Desk_actor_118
    have hF := vIf c16 hF
    rcases Decidable.em (x2 = 8) with c17 | c17
    · have hF := vIt c17 hF
      refine lv_tableIn (off := 95) (tgt := 119) hx hb d_Desk_actor_24 (by rw [c17]; decide) (by rw [c17]; decide) (by rw [c17]; rfl) (by decide) ?_
      refine lv_aload_n hx hb d_Desk_actor_119 rfl (lv_at hl 0 rfl) ?_
      refine gf_Thr_state B hP hj7 L_Desk_192 d_Desk_actor_120 ?_
      refine lv_iconst (v := 2) hx hb d_Desk_actor_123 (by decide) ?_
      refine lv_icmp_ne (tgt := 147) hx hb d_Desk_actor_124 (by decide) (fun c18 => ?_) (fun c18 => ?_)
      · have hF := vIf c18 hF
        refine lv_iconst (v := (-1)) hx hb d_Desk_actor_147 (by decide) ?_
        exact ed_rI B hr hA hP hD hS (vP hF) d_Desk_actor_148
      · have hF := vIt c18 hF
        refine lv_aload_n hx hb d_Desk_actor_127 rfl (lv_at hl 0 rfl) ?_
        refine gf_Thr_deadline B hP hj7 L_Desk_264 d_Desk_actor_128 ?_
        refine lv_iconst (v := (-1)) hx hb d_Desk_actor_131 (by decide) ?_
        refine lv_icmp_eq (tgt := 147) hx hb d_Desk_actor_132 (by decide) (fun c19 => ?_) (fun c19 => ?_)
        · have hF := vIt c19 hF
          refine lv_iconst (v := (-1)) hx hb d_Desk_actor_147 (by decide) ?_
          exact ed_rI B hr hA hP hD hS (vP hF) d_Desk_actor_148
        · have hF := vIf c19 hF
          refine lv_aload_n hx hb d_Desk_actor_135 rfl (lv_at hl 0 rfl) ?_
          refine gf_Thr_deadline B hP hj7 L_Desk_264 d_Desk_actor_136 ?_
          refine lv_aload_n hx hb d_Desk_actor_139 rfl (lv_at hl 1 rfl) ?_
          refine gf_Desk_clock B hP (by decide) L_Desk_249 d_Desk_actor_140 ?_
          refine lv_isub hx hb d_Desk_actor_143 ?_
          refine lv_goto (tgt := 148) hx hb d_Desk_actor_144 (by decide) ?_
          exact ed_rI B hr hA hP hD hS (vP hF) d_Desk_actor_148
    have hF := vIf c17 hF
    refine lv_tableOut (tgt := 149) hx hb d_Desk_actor_24 (by have qc9 := lv_neT (a := 0) c9 (by decide); have qc10 := lv_neT (a := 1) c10 (by decide); have qc11 := lv_neT (a := 2) c11 (by decide); have qc12 := lv_neT (a := 3) c12 (by decide); have qc13 := lv_neT (a := 4) c13 (by decide); have qc14 := lv_neT (a := 5) c14 (by decide); have qc15 := lv_neT (a := 6) c15 (by decide); have qc16 := lv_neT (a := 7) c16 (by decide); have qc17 := lv_neT (a := 8) c17 (by decide); omega) (by decide) ?_
    refine lv_iconst (v := (-1)) hx hb d_Desk_actor_149 (by decide) ?_
    exact ed_rI B hr hA hP hD hS (vP hF) d_Desk_actor_150
  · have hF := vIt c4 hF
    refine lv_iconst (v := (-1)) hx hb d_Desk_actor_14 (by decide) ?_
    exact ed_rI B hr hA hP hD hS (vP hF) d_Desk_actor_15
set_option maxHeartbeats 4000000 in
set_option maxRecDepth 100000 in
theorem C_Desk_actor (l : Launch) (D : va_G) (ad : Nat → Nat) (ca : Nat → ClassId) (x1 : Int32) (x2 : Int32) (σ : ed_S) (r : Int32) (σ' : ed_S) (hF : F_Desk_actor x1 x2 σ = some (r, σ')) : ed_MI l y_Desk_actor ws_Desk_actor rm_Desk_actor D ca (ed_w ad ca) [.ref (ad (pDesk 0)), .int x1, .int x2] σ r σ' := by
  refine ed_metI (cc := prog_1_method_17_code) (own := "ExecutiveDesk") (nL := 4) (ret := (some .int)) (by decide) rfl rfl (Nat.le_of_ble_eq_true rfl) ?_
  intro p e s m args below meth c A B hr hA
  exact T_Desk_actor B hr hA x1 x2 σ  hF
abbrev ws_Desk_detailOf : List Cond := Cond.code y_Desk_detailOf prog_1_method_34_code 2 (some .int) :: ed_tb
abbrev rm_Desk_detailOf : Room := { frames := 1, cells := 0, slots := 0, locals := 20 }
def F_Desk_detailOf (i1 : Nat) (σ : ed_S) : Option (Int32 × ed_S) := (if (σ 22 i1 0) = 2 then (some ((σ 27 i1 0), σ)) else (if (σ 22 i1 0) = 3 then (some (0, σ)) else (if (σ 22 i1 0) = 4 then (if (σ 29 i1 0) = (-1) then (some (0, σ)) else (some (((σ 29 i1 0) - (σ 3 0 0)), σ))) else (if (σ 22 i1 0) = 5 then (vB2 (F_Row_first (16 + i1) σ) fun r8 σ6 => (some (r8, σ6))) else (some (0, σ))))))
set_option maxHeartbeats 4000000 in
set_option maxRecDepth 100000 in
theorem T_Desk_detailOf {r : Int32} {σ' : ed_S} (B : ed_B p s m args meth c prog_1_method_34_code "ExecutiveDesk" 2 D ca) (hr : meth.sig.returnType = (some .int)) (hA : ∀ q : Nat, s.heap.size ≤ q → A q) : ∀ (i1 : Nat) (σ : ed_S), i1 < 16 → F_Desk_detailOf  i1 σ = some (r, σ') → ed_G p l e rm_Desk_detailOf s m args below meth c D ca (ed_w ad ca) A (ed_QI D ca (ed_w ad ca) A below args s r σ') 2 0 [(0, .ref (ad (pDesk 0))), (1, .ref (ad (pObj i1)))] [] σ := by
  have hx := B.1
  have hb := B.2.1
  intro i1 σ h1 hF H locs ls hP hD hS hl
  have hF : (if (σ 22 i1 0) = 2 then (some ((σ 27 i1 0), σ)) else (if (σ 22 i1 0) = 3 then (some (0, σ)) else (if (σ 22 i1 0) = 4 then (if (σ 29 i1 0) = (-1) then (some (0, σ)) else (some (((σ 29 i1 0) - (σ 3 0 0)), σ))) else (if (σ 22 i1 0) = 5 then (vB2 (F_Row_first (16 + i1) σ) fun r8 σ6 => (some (r8, σ6))) else (some (0, σ)))))) = some (r, σ') := hF
  refine lv_aload_n hx hb d_Desk_detailOf_0 rfl (lv_at hl 1 rfl) ?_
  refine gf_Obj_type B hP h1 L_Desk_153 d_Desk_detailOf_1 ?_
  rcases Decidable.em ((σ 22 i1 0) = 2) with c1 | c1
  · have hF := vIt c1 hF
    refine lv_tableIn (off := 32) (tgt := 36) hx hb d_Desk_detailOf_4 (by rw [c1]; decide) (by rw [c1]; decide) (by rw [c1]; rfl) (by decide) ?_
    refine lv_aload_n hx hb d_Desk_detailOf_36 rfl (lv_at hl 1 rfl) ?_
    refine gf_Obj_owner B hP h1 L_Desk_117 d_Desk_detailOf_37 ?_
    exact ed_rI B hr hA hP hD hS (vP hF) d_Desk_detailOf_40
  have hF := vIf c1 hF
  rcases Decidable.em ((σ 22 i1 0) = 3) with c2 | c2
  · have hF := vIt c2 hF
    refine lv_tableIn (off := 67) (tgt := 71) hx hb d_Desk_detailOf_4 (by rw [c2]; decide) (by rw [c2]; decide) (by rw [c2]; rfl) (by decide) ?_
    refine lv_iconst (v := 0) hx hb d_Desk_detailOf_71 (by decide) ?_
    exact ed_rI B hr hA hP hD hS (vP hF) d_Desk_detailOf_72
  have hF := vIf c2 hF
  rcases Decidable.em ((σ 22 i1 0) = 4) with c3 | c3
  · have hF := vIt c3 hF
    refine lv_tableIn (off := 37) (tgt := 41) hx hb d_Desk_detailOf_4 (by rw [c3]; decide) (by rw [c3]; decide) (by rw [c3]; rfl) (by decide) ?_
    refine lv_aload_n hx hb d_Desk_detailOf_41 rfl (lv_at hl 1 rfl) ?_
    refine gf_Obj_due B hP h1 L_Desk_318 d_Desk_detailOf_42 ?_
    refine lv_iconst (v := (-1)) hx hb d_Desk_detailOf_45 (by decide) ?_
    refine lv_icmp_ne (tgt := 53) hx hb d_Desk_detailOf_46 (by decide) (fun c4 => ?_) (fun c4 => ?_)
    · have hF := vIf c4 hF
      refine lv_aload_n hx hb d_Desk_detailOf_53 rfl (lv_at hl 1 rfl) ?_
      refine gf_Obj_due B hP h1 L_Desk_318 d_Desk_detailOf_54 ?_
      refine lv_aload_n hx hb d_Desk_detailOf_57 rfl (lv_at hl 0 rfl) ?_
      refine gf_Desk_clock B hP (by decide) L_Desk_249 d_Desk_detailOf_58 ?_
      refine lv_isub hx hb d_Desk_detailOf_61 ?_
      exact ed_rI B hr hA hP hD hS (vP hF) d_Desk_detailOf_62
    · have hF := vIt c4 hF
      refine lv_iconst (v := 0) hx hb d_Desk_detailOf_49 (by decide) ?_
      refine lv_goto (tgt := 62) hx hb d_Desk_detailOf_50 (by decide) ?_
      exact ed_rI B hr hA hP hD hS (vP hF) d_Desk_detailOf_62
  have hF := vIf c3 hF
  rcases Decidable.em ((σ 22 i1 0) = 5) with c5 | c5
  · have hF := vIt c5 hF
    refine lv_tableIn (off := 59) (tgt := 63) hx hb d_Desk_detailOf_4 (by rw [c5]; decide) (by rw [c5]; decide) (by rw [c5]; rfl) (by decide) ?_
    refine lv_aload_n hx hb d_Desk_detailOf_63 rfl (lv_at hl 1 rfl) ?_
    refine gf_Obj_row B hP h1 L_Desk_270 d_Desk_detailOf_64 ?_
    obtain ⟨r8, σ6, q7, hF⟩ := vB2_some hF
    refine ed_cvI (As := []) (rest := []) B hP hD hS hA (C_Row_first l D ad ca (16 + i1) σ r8 σ6 (ed_b16 h1) q7) me_Row_first mv_Row_first L_Desk_321 (ed_rc_Row B hP (ed_b16 h1)) ⟨rfl, rfl⟩ ⟨Nat.le_of_ble_eq_true rfl, Nat.le_of_ble_eq_true rfl⟩ rfl rfl hl.1 (lv_room (Nat.le_of_ble_eq_true rfl)) d_Desk_detailOf_67 (fun H locs hP hD hS => ?_)
    exact ed_rI B hr hA hP hD hS (vP hF) d_Desk_detailOf_70
  have hF := vIf c5 hF
  refine lv_tableOut (tgt := 71) hx hb d_Desk_detailOf_4 (by have qc1 := lv_neT (a := 2) c1 (by decide); have qc2 := lv_neT (a := 3) c2 (by decide); have qc3 := lv_neT (a := 4) c3 (by decide); have qc5 := lv_neT (a := 5) c5 (by decide); omega) (by decide) ?_
  refine lv_iconst (v := 0) hx hb d_Desk_detailOf_71 (by decide) ?_
  exact ed_rI B hr hA hP hD hS (vP hF) d_Desk_detailOf_72
set_option maxHeartbeats 4000000 in
set_option maxRecDepth 100000 in
theorem C_Desk_detailOf (l : Launch) (D : va_G) (ad : Nat → Nat) (ca : Nat → ClassId) (i1 : Nat) (σ : ed_S) (r : Int32) (σ' : ed_S) (h1 : i1 < 16) (hF : F_Desk_detailOf i1 σ = some (r, σ')) : ed_MI l y_Desk_detailOf ws_Desk_detailOf rm_Desk_detailOf D ca (ed_w ad ca) [.ref (ad (pDesk 0)), .ref (ad (pObj i1))] σ r σ' := by
  refine ed_metI (cc := prog_1_method_34_code) (own := "ExecutiveDesk") (nL := 2) (ret := (some .int)) (by decide) rfl rfl (Nat.le_of_ble_eq_true rfl) ?_
  intro p e s m args below meth c A B hr hA
  exact T_Desk_detailOf B hr hA i1 σ h1 hF
abbrev ws_Desk_object : List Cond := Cond.code y_Desk_object prog_1_method_18_code 4 (some .int) :: ed_tb
abbrev rm_Desk_object : Room := { frames := 2, cells := 0, slots := 0, locals := 43 }
def F_Desk_object (x1 : Int32) (x2 : Int32) (σ : ed_S) : Option (Int32 × ed_S) := (vB2 (F_Desk_isThere x1 σ) fun r3 σ1 => (if r3 = 0 then (some ((-1), σ1)) else (vG x1 16 fun j5 => (if x2 = 0 then (some ((σ1 22 j5 0), σ1)) else (if x2 = 1 then (vB2 (F_Obj_currentName j5 σ1) fun r13 σ11 => (some (r13, σ11))) else (if x2 = 2 then (some ((σ1 24 j5 0), σ1)) else (if x2 = 3 then (some ((σ1 25 j5 0), σ1)) else (if x2 = 4 then (if (σ1 22 j5 0) = 5 then (some ((σ1 18 (16 + j5) 0), σ1)) else (some ((σ1 26 j5 0), σ1))) else (if x2 = 5 then (vB2 (F_Desk_detailOf j5 σ1) fun r21 σ19 => (some (r21, σ19))) else (if x2 = 6 then (if (σ1 28 j5 0) = 0 then (some (0, σ1)) else (some (1, σ1))) else (if x2 = 7 then (some ((σ1 30 j5 0), σ1)) else (some ((-1), σ1)))))))))))))
set_option maxHeartbeats 4000000 in
set_option maxRecDepth 100000 in
theorem T_Desk_object {r : Int32} {σ' : ed_S} (B : ed_B p s m args meth c prog_1_method_18_code "ExecutiveDesk" 4 D ca) (hr : meth.sig.returnType = (some .int)) (hA : ∀ q : Nat, s.heap.size ≤ q → A q) : ∀ (x1 : Int32) (x2 : Int32) (σ : ed_S), F_Desk_object  x1 x2 σ = some (r, σ') → ed_G p l e rm_Desk_object s m args below meth c D ca (ed_w ad ca) A (ed_QI D ca (ed_w ad ca) A below args s r σ') 4 0 [(0, .ref (ad (pDesk 0))), (1, .int x1), (2, .int x2)] [] σ := by
  have hx := B.1
  have hb := B.2.1
  intro x1 x2 σ  hF H locs ls hP hD hS hl
  have hF : (vB2 (F_Desk_isThere x1 σ) fun r3 σ1 => (if r3 = 0 then (some ((-1), σ1)) else (vG x1 16 fun j5 => (if x2 = 0 then (some ((σ1 22 j5 0), σ1)) else (if x2 = 1 then (vB2 (F_Obj_currentName j5 σ1) fun r13 σ11 => (some (r13, σ11))) else (if x2 = 2 then (some ((σ1 24 j5 0), σ1)) else (if x2 = 3 then (some ((σ1 25 j5 0), σ1)) else (if x2 = 4 then (if (σ1 22 j5 0) = 5 then (some ((σ1 18 (16 + j5) 0), σ1)) else (some ((σ1 26 j5 0), σ1))) else (if x2 = 5 then (vB2 (F_Desk_detailOf j5 σ1) fun r21 σ19 => (some (r21, σ19))) else (if x2 = 6 then (if (σ1 28 j5 0) = 0 then (some (0, σ1)) else (some (1, σ1))) else (if x2 = 7 then (some ((σ1 30 j5 0), σ1)) else (some ((-1), σ1))))))))))))) = some (r, σ') := hF
  refine lv_aload_n hx hb d_Desk_object_0 rfl (lv_at hl 0 rfl) ?_
  refine lv_iload_n hx hb d_Desk_object_1 rfl (lv_at hl 1 rfl) ?_
  obtain ⟨r3, σ1, q2, hF⟩ := vB2_some hF
  refine ed_cvI (As := [.int x1]) (rest := []) B hP hD hS hA (C_Desk_isThere l D ad ca x1 σ r3 σ1  q2) me_Desk_isThere mv_Desk_isThere L_Desk_211 (ed_rc_Desk B hP (by decide)) ⟨rfl, rfl⟩ ⟨Nat.le_of_ble_eq_true rfl, Nat.le_of_ble_eq_true rfl⟩ rfl rfl hl.1 (lv_room (Nat.le_of_ble_eq_true rfl)) d_Desk_object_2 (fun H locs hP hD hS => ?_)
  refine lv_if_ne (tgt := 10) hx hb d_Desk_object_5 (by decide) (fun c4 => ?_) (fun c4 => ?_)
  · have hF := vIf c4 hF
    refine lv_aload_n hx hb d_Desk_object_10 rfl (lv_at hl 0 rfl) ?_
    refine gf_Desk_objects B hP (by decide) L_Desk_29 d_Desk_object_11 ?_
    refine lv_iload_n hx hb d_Desk_object_14 rfl (lv_at hl 1 rfl) ?_
    obtain ⟨j5, ej6, hj7, hn8, hF⟩ := vG_some hF
    refine al_AObj B hP (by decide) hn8 ej6 hj7 d_Desk_object_15 ?_
    refine lv_astore_n (lv' := [(3, .ref (ad (pObj j5))), (0, .ref (ad (pDesk 0))), (1, .int x1), (2, .int x2)]) hx hb d_Desk_object_16 rfl hl (by decide) rfl (fun ls hl => ?_)
    refine lv_iload_n hx hb d_Desk_object_17 rfl (lv_at hl 3 rfl) ?_
    rcases Decidable.em (x2 = 0) with c9 | c9
    · have hF := vIt c9 hF
      refine lv_tableIn (off := 46) (tgt := 64) hx hb d_Desk_object_18 (by rw [c9]; decide) (by rw [c9]; decide) (by rw [c9]; rfl) (by decide) ?_
      refine lv_aload_n hx hb d_Desk_object_64 rfl (lv_at hl 0 rfl) ?_
      refine gf_Obj_type B hP hj7 L_Desk_153 d_Desk_object_65 ?_
      exact ed_rI B hr hA hP hD hS (vP hF) d_Desk_object_68
    have hF := vIf c9 hF
    rcases Decidable.em (x2 = 1) with c10 | c10
    · have hF := vIt c10 hF
      refine lv_tableIn (off := 51) (tgt := 69) hx hb d_Desk_object_18 (by rw [c10]; decide) (by rw [c10]; decide) (by rw [c10]; rfl) (by decide) ?_
      refine lv_aload_n hx hb d_Desk_object_69 rfl (lv_at hl 0 rfl) ?_
      obtain ⟨r13, σ11, q12, hF⟩ := vB2_some hF
      refine ed_cvI (As := []) (rest := []) B hP hD hS hA (C_Obj_currentName l D ad ca j5 σ1 r13 σ11 hj7 q12) me_Obj_currentName mv_Obj_currentName L_Desk_267 (ed_rc_Obj B hP hj7) ⟨rfl, rfl⟩ ⟨Nat.le_of_ble_eq_true rfl, Nat.le_of_ble_eq_true rfl⟩ rfl rfl hl.1 (lv_room (Nat.le_of_ble_eq_true rfl)) d_Desk_object_70 (fun H locs hP hD hS => ?_)
      exact ed_rI B hr hA hP hD hS (vP hF) d_Desk_object_73
    have hF := vIf c10 hF
    rcases Decidable.em (x2 = 2) with c14 | c14
    · have hF := vIt c14 hF
      refine lv_tableIn (off := 56) (tgt := 74) hx hb d_Desk_object_18 (by rw [c14]; decide) (by rw [c14]; decide) (by rw [c14]; rfl) (by decide) ?_
      refine lv_aload_n hx hb d_Desk_object_74 rfl (lv_at hl 0 rfl) ?_
      refine gf_Obj_handles B hP hj7 L_Desk_141 d_Desk_object_75 ?_
      exact ed_rI B hr hA hP hD hS (vP hF) d_Desk_object_78
    have hF := vIf c14 hF
    rcases Decidable.em (x2 = 3) with c15 | c15
    · have hF := vIt c15 hF
      refine lv_tableIn (off := 61) (tgt := 79) hx hb d_Desk_object_18 (by rw [c15]; decide) (by rw [c15]; decide) (by rw [c15]; rfl) (by decide) ?_
      refine lv_aload_n hx hb d_Desk_object_79 rfl (lv_at hl 0 rfl) ?_
      refine gf_Obj_pointers B hP hj7 L_Desk_204 d_Desk_object_80 ?_
      exact ed_rI B hr hA hP hD hS (vP hF) d_Desk_object_83
    have hF := vIf c15 hF
    rcases Decidable.em (x2 = 4) with c16 | c16
    · have hF := vIt c16 hF
      refine lv_tableIn (off := 66) (tgt := 84) hx hb d_Desk_object_18 (by rw [c16]; decide) (by rw [c16]; decide) (by rw [c16]; rfl) (by decide) ?_
      refine lv_aload_n hx hb d_Desk_object_84 rfl (lv_at hl 0 rfl) ?_
      refine gf_Obj_type B hP hj7 L_Desk_153 d_Desk_object_85 ?_
      refine lv_iconst (v := 5) hx hb d_Desk_object_88 (by decide) ?_
      refine lv_icmp_ne (tgt := 102) hx hb d_Desk_object_89 (by decide) (fun c17 => ?_) (fun c17 => ?_)
      · have hF := vIf c17 hF
        refine lv_aload_n hx hb d_Desk_object_102 rfl (lv_at hl 0 rfl) ?_
        refine gf_Obj_value B hP hj7 L_Desk_273 d_Desk_object_103 ?_
        exact ed_rI B hr hA hP hD hS (vP hF) d_Desk_object_106
      · have hF := vIt c17 hF
        refine lv_aload_n hx hb d_Desk_object_92 rfl (lv_at hl 0 rfl) ?_
        refine gf_Obj_row B hP hj7 L_Desk_270 d_Desk_object_93 ?_
        refine gf_Row_size B hP (ed_b16 hj7) L_Desk_181 d_Desk_object_96 ?_
        refine lv_goto (tgt := 106) hx hb d_Desk_object_99 (by decide) ?_
        exact ed_rI B hr hA hP hD hS (vP hF) d_Desk_object_106
    have hF := vIf c16 hF
    rcases Decidable.em (x2 = 5) with c18 | c18
    · have hF := vIt c18 hF
      refine lv_tableIn (off := 89) (tgt := 107) hx hb d_Desk_object_18 (by rw [c18]; decide) (by rw [c18]; decide) (by rw [c18]; rfl) (by decide) ?_
      refine lv_aload_n hx hb d_Desk_object_107 rfl (lv_at hl 1 rfl) ?_
      refine lv_aload_n hx hb d_Desk_object_108 rfl (lv_at hl 0 rfl) ?_
      obtain ⟨r21, σ19, q20, hF⟩ := vB2_some hF
      refine ed_cvI (As := [.ref (ad (pObj j5))]) (rest := []) B hP hD hS hA (C_Desk_detailOf l D ad ca j5 σ1 r21 σ19 hj7 q20) me_Desk_detailOf mv_Desk_detailOf L_Desk_276 (ed_rc_Desk B hP (by decide)) ⟨rfl, rfl⟩ ⟨Nat.le_of_ble_eq_true rfl, Nat.le_of_ble_eq_true rfl⟩ rfl rfl hl.1 (lv_room (Nat.le_of_ble_eq_true rfl)) d_Desk_object_109 (fun H locs hP hD hS => ?_)
      exact ed_rI B hr hA hP hD hS (vP hF) d_Desk_object_112
    have hF := vIf c18 hF
    rcases Decidable.em (x2 = 6) with c22 | c22
    · have hF := vIt c22 hF
      refine lv_tableIn (off := 95) (tgt := 113) hx hb d_Desk_object_18 (by rw [c22]; decide) (by rw [c22]; decide) (by rw [c22]; rfl) (by decide) ?_
      refine lv_aload_n hx hb d_Desk_object_113 rfl (lv_at hl 0 rfl) ?_
      refine gf_Obj_abandoned B hP hj7 L_Desk_280 d_Desk_object_114 ?_
      refine lv_if_eq (tgt := 124) hx hb d_Desk_object_117 (by decide) (fun c23 => ?_) (fun c23 => ?_)
      · have hF := vIt c23 hF
        refine lv_iconst (v := 0) hx hb d_Desk_object_124 (by decide) ?_
        exact ed_rI B hr hA hP hD hS (vP hF) d_Desk_object_125
      · have hF := vIf c23 hF
        refine lv_iconst (v := 1) hx hb d_Desk_object_120 (by decide) ?_
        refine lv_goto (tgt := 125) hx hb d_Desk_object_121 (by decide) ?_
        exact ed_rI B hr hA hP hD hS (vP hF) d_Desk_object_125
    have hF := vIf c22 hF
    rcases Decidable.em (x2 = 7) with c24 | c24
    · have hF := vIt c24 hF
      refine lv_tableIn (off := 108) (tgt := 126) hx hb d_Desk_object_18 (by rw [c24]; decide) (by rw [c24]; decide) (by rw [c24]; rfl) (by decide) ?_
      refine lv_aload_n hx hb d_Desk_object_126 rfl (lv_at hl 0 rfl) ?_
      refine gf_Obj_rules B hP hj7 L_Desk_124 d_Desk_object_127 ?_
      refine gf_Rul_size B hP hj7 L_Desk_147 d_Desk_object_130 ?_
      exact ed_rI B hr hA hP hD hS (vP hF) d_Desk_object_133
    have hF := vIf c24 hF
    refine lv_tableOut (tgt := 134) hx hb d_Desk_object_18 (by have qc9 := lv_neT (a := 0) c9 (by decide); have qc10 := lv_neT (a := 1) c10 (by decide); have qc14 := lv_neT (a := 2) c14 (by decide); have qc15 := lv_neT (a := 3) c15 (by decide); have qc16 := lv_neT (a := 4) c16 (by decide); have qc18 := lv_neT (a := 5) c18 (by decide); have qc22 := lv_neT (a := 6) c22 (by decide); have qc24 := lv_neT (a := 7) c24 (by decide); omega) (by decide) ?_
    refine lv_iconst (v := (-1)) hx hb d_Desk_object_134 (by decide) ?_
    exact ed_rI B hr hA hP hD hS (vP hF) d_Desk_object_135
  · have hF := vIt c4 hF
    refine lv_iconst (v := (-1)) hx hb d_Desk_object_8 (by decide) ?_
    exact ed_rI B hr hA hP hD hS (vP hF) d_Desk_object_9
set_option maxHeartbeats 4000000 in
set_option maxRecDepth 100000 in
theorem C_Desk_object (l : Launch) (D : va_G) (ad : Nat → Nat) (ca : Nat → ClassId) (x1 : Int32) (x2 : Int32) (σ : ed_S) (r : Int32) (σ' : ed_S) (hF : F_Desk_object x1 x2 σ = some (r, σ')) : ed_MI l y_Desk_object ws_Desk_object rm_Desk_object D ca (ed_w ad ca) [.ref (ad (pDesk 0)), .int x1, .int x2] σ r σ' := by
  refine ed_metI (cc := prog_1_method_18_code) (own := "ExecutiveDesk") (nL := 4) (ret := (some .int)) (by decide) rfl rfl (Nat.le_of_ble_eq_true rfl) ?_
  intro p e s m args below meth c A B hr hA
  exact T_Desk_object B hr hA x1 x2 σ  hF
abbrev ws_Desk_io : List Cond := Cond.code y_Desk_io prog_1_method_19_code 4 (some .int) :: ed_tb
abbrev rm_Desk_io : Room := { frames := 1, cells := 0, slots := 0, locals := 22 }
def F_Desk_io (x1 : Int32) (x2 : Int32) (σ : ed_S) : Option (Int32 × ed_S) := (vB2 (F_Desk_isWithin x1 0 7 σ) fun r3 σ1 => (if r3 = 0 then (some ((-1), σ1)) else (vG x1 8 fun j5 => (if (σ1 31 j5 0) = (-1) then (some ((-1), σ1)) else (vG x1 8 fun j10 => (if x2 = 0 then (some ((σ1 31 j10 0), σ1)) else (if x2 = 1 then (some ((σ1 32 j10 0), σ1)) else (if x2 = 2 then (some ((σ1 33 j10 0), σ1)) else (if x2 = 3 then (some ((σ1 34 j10 0), σ1)) else (if x2 = 4 then (some ((σ1 35 j10 0), σ1)) else (if x2 = 5 then (if (σ1 31 j10 0) = 0 then (if (σ1 37 j10 0) = 0 then (some (0, σ1)) else (some (1, σ1))) else (some (0, σ1))) else (if x2 = 6 then (if (σ1 38 j10 0) = 0 then (some (0, σ1)) else (some (1, σ1))) else (some ((-1), σ1))))))))))))))
set_option maxHeartbeats 4000000 in
set_option maxRecDepth 100000 in
theorem T_Desk_io {r : Int32} {σ' : ed_S} (B : ed_B p s m args meth c prog_1_method_19_code "ExecutiveDesk" 4 D ca) (hr : meth.sig.returnType = (some .int)) (hA : ∀ q : Nat, s.heap.size ≤ q → A q) : ∀ (x1 : Int32) (x2 : Int32) (σ : ed_S), F_Desk_io  x1 x2 σ = some (r, σ') → ed_G p l e rm_Desk_io s m args below meth c D ca (ed_w ad ca) A (ed_QI D ca (ed_w ad ca) A below args s r σ') 4 0 [(0, .ref (ad (pDesk 0))), (1, .int x1), (2, .int x2)] [] σ := by
  have hx := B.1
  have hb := B.2.1
  intro x1 x2 σ  hF H locs ls hP hD hS hl
  have hF : (vB2 (F_Desk_isWithin x1 0 7 σ) fun r3 σ1 => (if r3 = 0 then (some ((-1), σ1)) else (vG x1 8 fun j5 => (if (σ1 31 j5 0) = (-1) then (some ((-1), σ1)) else (vG x1 8 fun j10 => (if x2 = 0 then (some ((σ1 31 j10 0), σ1)) else (if x2 = 1 then (some ((σ1 32 j10 0), σ1)) else (if x2 = 2 then (some ((σ1 33 j10 0), σ1)) else (if x2 = 3 then (some ((σ1 34 j10 0), σ1)) else (if x2 = 4 then (some ((σ1 35 j10 0), σ1)) else (if x2 = 5 then (if (σ1 31 j10 0) = 0 then (if (σ1 37 j10 0) = 0 then (some (0, σ1)) else (some (1, σ1))) else (some (0, σ1))) else (if x2 = 6 then (if (σ1 38 j10 0) = 0 then (some (0, σ1)) else (some (1, σ1))) else (some ((-1), σ1)))))))))))))) = some (r, σ') := hF
  refine lv_iload_n hx hb d_Desk_io_0 rfl (lv_at hl 1 rfl) ?_
  refine lv_iconst (v := 0) hx hb d_Desk_io_1 (by decide) ?_
  refine lv_bipush (v := 7) hx hb d_Desk_io_2 (by decide) ?_
  obtain ⟨r3, σ1, q2, hF⟩ := vB2_some hF
  refine ed_csI (As := [.int x1, .int 0, .int 7]) (rest := []) B hP hD hS hA (C_Desk_isWithin l D ad ca x1 0 7 σ r3 σ1  q2) me_Desk_isWithin st_Desk_isWithin L_Desk_54 ⟨rfl, rfl⟩ ⟨Nat.le_of_ble_eq_true rfl, Nat.le_of_ble_eq_true rfl⟩ rfl rfl hl.1 (lv_room (Nat.le_of_ble_eq_true rfl)) d_Desk_io_4 (fun H locs hP hD hS => ?_)
  refine lv_if_eq (tgt := 23) hx hb d_Desk_io_7 (by decide) (fun c4 => ?_) (fun c4 => ?_)
  · have hF := vIt c4 hF
    refine lv_iconst (v := (-1)) hx hb d_Desk_io_23 (by decide) ?_
    exact ed_rI B hr hA hP hD hS (vP hF) d_Desk_io_24
  · have hF := vIf c4 hF
    refine lv_aload_n hx hb d_Desk_io_10 rfl (lv_at hl 0 rfl) ?_
    refine gf_Desk_transfers B hP (by decide) L_Desk_35 d_Desk_io_11 ?_
    refine lv_iload_n hx hb d_Desk_io_14 rfl (lv_at hl 1 rfl) ?_
    obtain ⟨j5, ej6, hj7, hn8, hF⟩ := vG_some hF
    refine al_ATra B hP (by decide) hn8 ej6 hj7 d_Desk_io_15 ?_
    refine gf_Tra_status B hP hj7 L_Desk_283 d_Desk_io_16 ?_
    refine lv_iconst (v := (-1)) hx hb d_Desk_io_19 (by decide) ?_
    refine lv_icmp_ne (tgt := 25) hx hb d_Desk_io_20 (by decide) (fun c9 => ?_) (fun c9 => ?_)
    · have hF := vIf c9 hF
      refine lv_aload_n hx hb d_Desk_io_25 rfl (lv_at hl 0 rfl) ?_
      refine gf_Desk_transfers B hP (by decide) L_Desk_35 d_Desk_io_26 ?_
      refine lv_iload_n hx hb d_Desk_io_29 rfl (lv_at hl 1 rfl) ?_
      obtain ⟨j10, ej11, hj12, hn13, hF⟩ := vG_some hF
      refine al_ATra B hP (by decide) hn13 ej11 hj12 d_Desk_io_30 ?_
      refine lv_astore_n (lv' := [(3, .ref (ad (pTra j10))), (0, .ref (ad (pDesk 0))), (1, .int x1), (2, .int x2)]) hx hb d_Desk_io_31 rfl hl (by decide) rfl (fun ls hl => ?_)
      refine lv_iload_n hx hb d_Desk_io_32 rfl (lv_at hl 3 rfl) ?_
      rcases Decidable.em (x2 = 0) with c14 | c14
      · have hF := vIt c14 hF
        refine lv_tableIn (off := 43) (tgt := 76) hx hb d_Desk_io_33 (by rw [c14]; decide) (by rw [c14]; decide) (by rw [c14]; rfl) (by decide) ?_
        refine lv_aload_n hx hb d_Desk_io_76 rfl (lv_at hl 0 rfl) ?_
        refine gf_Tra_status B hP hj12 L_Desk_283 d_Desk_io_77 ?_
        exact ed_rI B hr hA hP hD hS (vP hF) d_Desk_io_80
      have hF := vIf c14 hF
      rcases Decidable.em (x2 = 1) with c15 | c15
      · have hF := vIt c15 hF
        refine lv_tableIn (off := 48) (tgt := 81) hx hb d_Desk_io_33 (by rw [c15]; decide) (by rw [c15]; decide) (by rw [c15]; rfl) (by decide) ?_
        refine lv_aload_n hx hb d_Desk_io_81 rfl (lv_at hl 0 rfl) ?_
        refine gf_Tra_amount B hP hj12 L_Desk_286 d_Desk_io_82 ?_
        exact ed_rI B hr hA hP hD hS (vP hF) d_Desk_io_85
      have hF := vIf c15 hF
      rcases Decidable.em (x2 = 2) with c16 | c16
      · have hF := vIt c16 hF
        refine lv_tableIn (off := 53) (tgt := 86) hx hb d_Desk_io_33 (by rw [c16]; decide) (by rw [c16]; decide) (by rw [c16]; rfl) (by decide) ?_
        refine lv_aload_n hx hb d_Desk_io_86 rfl (lv_at hl 0 rfl) ?_
        refine gf_Tra_thread B hP hj12 L_Desk_239 d_Desk_io_87 ?_
        exact ed_rI B hr hA hP hD hS (vP hF) d_Desk_io_90
      have hF := vIf c16 hF
      rcases Decidable.em (x2 = 3) with c17 | c17
      · have hF := vIt c17 hF
        refine lv_tableIn (off := 58) (tgt := 91) hx hb d_Desk_io_33 (by rw [c17]; decide) (by rw [c17]; decide) (by rw [c17]; rfl) (by decide) ?_
        refine lv_aload_n hx hb d_Desk_io_91 rfl (lv_at hl 0 rfl) ?_
        refine gf_Tra_device B hP hj12 L_Desk_289 d_Desk_io_92 ?_
        exact ed_rI B hr hA hP hD hS (vP hF) d_Desk_io_95
      have hF := vIf c17 hF
      rcases Decidable.em (x2 = 4) with c18 | c18
      · have hF := vIt c18 hF
        refine lv_tableIn (off := 63) (tgt := 96) hx hb d_Desk_io_33 (by rw [c18]; decide) (by rw [c18]; decide) (by rw [c18]; rfl) (by decide) ?_
        refine lv_aload_n hx hb d_Desk_io_96 rfl (lv_at hl 0 rfl) ?_
        refine gf_Tra_length B hP hj12 L_Desk_292 d_Desk_io_97 ?_
        exact ed_rI B hr hA hP hD hS (vP hF) d_Desk_io_100
      have hF := vIf c18 hF
      rcases Decidable.em (x2 = 5) with c19 | c19
      · have hF := vIt c19 hF
        refine lv_tableIn (off := 68) (tgt := 101) hx hb d_Desk_io_33 (by rw [c19]; decide) (by rw [c19]; decide) (by rw [c19]; rfl) (by decide) ?_
        refine lv_aload_n hx hb d_Desk_io_101 rfl (lv_at hl 0 rfl) ?_
        refine gf_Tra_status B hP hj12 L_Desk_283 d_Desk_io_102 ?_
        refine lv_if_ne (tgt := 119) hx hb d_Desk_io_105 (by decide) (fun c20 => ?_) (fun c20 => ?_)
        · have hF := vIf c20 hF
          refine lv_iconst (v := 0) hx hb d_Desk_io_119 (by decide) ?_
          exact ed_rI B hr hA hP hD hS (vP hF) d_Desk_io_120
        · have hF := vIt c20 hF
          refine lv_aload_n hx hb d_Desk_io_108 rfl (lv_at hl 0 rfl) ?_
          refine gf_Tra_toBeCancelled B hP hj12 L_Desk_295 d_Desk_io_109 ?_
          refine lv_if_eq (tgt := 119) hx hb d_Desk_io_112 (by decide) (fun c21 => ?_) (fun c21 => ?_)
          · have hF := vIt c21 hF
            refine lv_iconst (v := 0) hx hb d_Desk_io_119 (by decide) ?_
            exact ed_rI B hr hA hP hD hS (vP hF) d_Desk_io_120
          · have hF := vIf c21 hF
            refine lv_iconst (v := 1) hx hb d_Desk_io_115 (by decide) ?_
            refine lv_goto (tgt := 120) hx hb d_Desk_io_116 (by decide) ?_
            exact ed_rI B hr hA hP hD hS (vP hF) d_Desk_io_120
      have hF := vIf c19 hF
      rcases Decidable.em (x2 = 6) with c22 | c22
      · have hF := vIt c22 hF
        refine lv_tableIn (off := 88) (tgt := 121) hx hb d_Desk_io_33 (by rw [c22]; decide) (by rw [c22]; decide) (by rw [c22]; rfl) (by decide) ?_
        refine lv_aload_n hx hb d_Desk_io_121 rfl (lv_at hl 0 rfl) ?_
        refine gf_Tra_retried B hP hj12 L_Desk_298 d_Desk_io_122 ?_
        refine lv_if_eq (tgt := 132) hx hb d_Desk_io_125 (by decide) (fun c23 => ?_) (fun c23 => ?_)
        · have hF := vIt c23 hF
          refine lv_iconst (v := 0) hx hb d_Desk_io_132 (by decide) ?_
          exact ed_rI B hr hA hP hD hS (vP hF) d_Desk_io_133
        · have hF := vIf c23 hF
          refine lv_iconst (v := 1) hx hb d_Desk_io_128 (by decide) ?_
          refine lv_goto (tgt := 133) hx hb d_Desk_io_129 (by decide) ?_
          exact ed_rI B hr hA hP hD hS (vP hF) d_Desk_io_133
      have hF := vIf c22 hF
      refine lv_tableOut (tgt := 134) hx hb d_Desk_io_33 (by have qc14 := lv_neT (a := 0) c14 (by decide); have qc15 := lv_neT (a := 1) c15 (by decide); have qc16 := lv_neT (a := 2) c16 (by decide); have qc17 := lv_neT (a := 3) c17 (by decide); have qc18 := lv_neT (a := 4) c18 (by decide); have qc19 := lv_neT (a := 5) c19 (by decide); have qc22 := lv_neT (a := 6) c22 (by decide); omega) (by decide) ?_
      refine lv_iconst (v := (-1)) hx hb d_Desk_io_134 (by decide) ?_
      exact ed_rI B hr hA hP hD hS (vP hF) d_Desk_io_135
    · have hF := vIt c9 hF
      refine lv_iconst (v := (-1)) hx hb d_Desk_io_23 (by decide) ?_
      exact ed_rI B hr hA hP hD hS (vP hF) d_Desk_io_24
set_option maxHeartbeats 4000000 in
set_option maxRecDepth 100000 in
theorem C_Desk_io (l : Launch) (D : va_G) (ad : Nat → Nat) (ca : Nat → ClassId) (x1 : Int32) (x2 : Int32) (σ : ed_S) (r : Int32) (σ' : ed_S) (hF : F_Desk_io x1 x2 σ = some (r, σ')) : ed_MI l y_Desk_io ws_Desk_io rm_Desk_io D ca (ed_w ad ca) [.ref (ad (pDesk 0)), .int x1, .int x2] σ r σ' := by
  refine ed_metI (cc := prog_1_method_19_code) (own := "ExecutiveDesk") (nL := 4) (ret := (some .int)) (by decide) rfl rfl (Nat.le_of_ble_eq_true rfl) ?_
  intro p e s m args below meth c A B hr hA
  exact T_Desk_io B hr hA x1 x2 σ  hF
abbrev ws_Desk_handle : List Cond := Cond.code y_Desk_handle prog_1_method_20_code 4 (some .int) :: ed_tb
abbrev rm_Desk_handle : Room := { frames := 2, cells := 0, slots := 0, locals := 43 }
def F_Desk_handle (x1 : Int32) (x2 : Int32) (x3 : Int32) (σ : ed_S) : Option (Int32 × ed_S) := (vB2 (F_Desk_isWithin x1 0 ((σ 0 0 0) - 1) σ) fun r3 σ1 => (if r3 = 0 then (some ((-1), σ1)) else (vG x1 4 fun j5 => (vB2 (F_Proc_objectOf j5 x2 σ1) fun r11 σ9 => (if r11 = (-1) then (some ((-1), σ9)) else (if x3 = 0 then (vG x1 4 fun j14 => (vB2 (F_Proc_objectOf j14 x2 σ9) fun r20 σ18 => (some (r20, σ18)))) else (if x3 = 1 then (vG x1 4 fun j22 => (vB2 (F_Proc_rightsOf j22 x2 σ9) fun r28 σ26 => (some (r28, σ26)))) else (some ((-1), σ9)))))))))
set_option maxHeartbeats 4000000 in
set_option maxRecDepth 100000 in
theorem T_Desk_handle {r : Int32} {σ' : ed_S} (B : ed_B p s m args meth c prog_1_method_20_code "ExecutiveDesk" 4 D ca) (hr : meth.sig.returnType = (some .int)) (hA : ∀ q : Nat, s.heap.size ≤ q → A q) : ∀ (x1 : Int32) (x2 : Int32) (x3 : Int32) (σ : ed_S), F_Desk_handle  x1 x2 x3 σ = some (r, σ') → ed_G p l e rm_Desk_handle s m args below meth c D ca (ed_w ad ca) A (ed_QI D ca (ed_w ad ca) A below args s r σ') 4 0 [(0, .ref (ad (pDesk 0))), (1, .int x1), (2, .int x2), (3, .int x3)] [] σ := by
  have hx := B.1
  have hb := B.2.1
  intro x1 x2 x3 σ  hF H locs ls hP hD hS hl
  have hF : (vB2 (F_Desk_isWithin x1 0 ((σ 0 0 0) - 1) σ) fun r3 σ1 => (if r3 = 0 then (some ((-1), σ1)) else (vG x1 4 fun j5 => (vB2 (F_Proc_objectOf j5 x2 σ1) fun r11 σ9 => (if r11 = (-1) then (some ((-1), σ9)) else (if x3 = 0 then (vG x1 4 fun j14 => (vB2 (F_Proc_objectOf j14 x2 σ9) fun r20 σ18 => (some (r20, σ18)))) else (if x3 = 1 then (vG x1 4 fun j22 => (vB2 (F_Proc_rightsOf j22 x2 σ9) fun r28 σ26 => (some (r28, σ26)))) else (some ((-1), σ9))))))))) = some (r, σ') := hF
  refine lv_iload_n hx hb d_Desk_handle_0 rfl (lv_at hl 1 rfl) ?_
  refine lv_iconst (v := 0) hx hb d_Desk_handle_1 (by decide) ?_
  refine lv_aload_n hx hb d_Desk_handle_2 rfl (lv_at hl 0 rfl) ?_
  refine gf_Desk_processCount B hP (by decide) L_Desk_58 d_Desk_handle_3 ?_
  refine lv_iconst (v := 1) hx hb d_Desk_handle_6 (by decide) ?_
  refine lv_isub hx hb d_Desk_handle_7 ?_
  obtain ⟨r3, σ1, q2, hF⟩ := vB2_some hF
  refine ed_csI (As := [.int x1, .int 0, .int ((σ 0 0 0) - 1)]) (rest := []) B hP hD hS hA (C_Desk_isWithin l D ad ca x1 0 ((σ 0 0 0) - 1) σ r3 σ1  q2) me_Desk_isWithin st_Desk_isWithin L_Desk_54 ⟨rfl, rfl⟩ ⟨Nat.le_of_ble_eq_true rfl, Nat.le_of_ble_eq_true rfl⟩ rfl rfl hl.1 (lv_room (Nat.le_of_ble_eq_true rfl)) d_Desk_handle_8 (fun H locs hP hD hS => ?_)
  refine lv_if_eq (tgt := 28) hx hb d_Desk_handle_11 (by decide) (fun c4 => ?_) (fun c4 => ?_)
  · have hF := vIt c4 hF
    refine lv_iconst (v := (-1)) hx hb d_Desk_handle_28 (by decide) ?_
    exact ed_rI B hr hA hP hD hS (vP hF) d_Desk_handle_29
  · have hF := vIf c4 hF
    refine lv_aload_n hx hb d_Desk_handle_14 rfl (lv_at hl 0 rfl) ?_
    refine gf_Desk_processes B hP (by decide) L_Desk_11 d_Desk_handle_15 ?_
    refine lv_iload_n hx hb d_Desk_handle_18 rfl (lv_at hl 1 rfl) ?_
    obtain ⟨j5, ej6, hj7, hn8, hF⟩ := vG_some hF
    refine al_AProc B hP (by decide) hn8 ej6 hj7 d_Desk_handle_19 ?_
    refine lv_iload_n hx hb d_Desk_handle_20 rfl (lv_at hl 2 rfl) ?_
    obtain ⟨r11, σ9, q10, hF⟩ := vB2_some hF
    refine ed_cvI (As := [.int x2]) (rest := []) B hP hD hS hA (C_Proc_objectOf l D ad ca j5 x2 σ1 r11 σ9 hj7 q10) me_Proc_objectOf mv_Proc_objectOf L_Desk_134 (ed_rc_Proc B hP hj7) ⟨rfl, rfl⟩ ⟨Nat.le_of_ble_eq_true rfl, Nat.le_of_ble_eq_true rfl⟩ rfl rfl hl.1 (lv_room (Nat.le_of_ble_eq_true rfl)) d_Desk_handle_21 (fun H locs hP hD hS => ?_)
    refine lv_iconst (v := (-1)) hx hb d_Desk_handle_24 (by decide) ?_
    refine lv_icmp_ne (tgt := 30) hx hb d_Desk_handle_25 (by decide) (fun c12 => ?_) (fun c12 => ?_)
    · have hF := vIf c12 hF
      refine lv_iload_n hx hb d_Desk_handle_30 rfl (lv_at hl 3 rfl) ?_
      rcases Decidable.em (x3 = 0) with c13 | c13
      · have hF := vIt c13 hF
        refine lv_lookup (off := 25) (tgt := 56) hx hb d_Desk_handle_31 (by decide) (by rw [c13]; decide) (by decide) ?_
        refine lv_aload_n hx hb d_Desk_handle_56 rfl (lv_at hl 0 rfl) ?_
        refine gf_Desk_processes B hP (by decide) L_Desk_11 d_Desk_handle_57 ?_
        refine lv_iload_n hx hb d_Desk_handle_60 rfl (lv_at hl 1 rfl) ?_
        obtain ⟨j14, ej15, hj16, hn17, hF⟩ := vG_some hF
        refine al_AProc B hP (by decide) hn17 ej15 hj16 d_Desk_handle_61 ?_
        refine lv_iload_n hx hb d_Desk_handle_62 rfl (lv_at hl 2 rfl) ?_
        obtain ⟨r20, σ18, q19, hF⟩ := vB2_some hF
        refine ed_cvI (As := [.int x2]) (rest := []) B hP hD hS hA (C_Proc_objectOf l D ad ca j14 x2 σ9 r20 σ18 hj16 q19) me_Proc_objectOf mv_Proc_objectOf L_Desk_134 (ed_rc_Proc B hP hj16) ⟨rfl, rfl⟩ ⟨Nat.le_of_ble_eq_true rfl, Nat.le_of_ble_eq_true rfl⟩ rfl rfl hl.1 (lv_room (Nat.le_of_ble_eq_true rfl)) d_Desk_handle_63 (fun H locs hP hD hS => ?_)
        exact ed_rI B hr hA hP hD hS (vP hF) d_Desk_handle_66
      have hF := vIf c13 hF
      rcases Decidable.em (x3 = 1) with c21 | c21
      · have hF := vIt c21 hF
        refine lv_lookup (off := 36) (tgt := 67) hx hb d_Desk_handle_31 (by decide) (by rw [lv_osw c13 (by decide)]; rw [c21]; decide) (by decide) ?_
        refine lv_aload_n hx hb d_Desk_handle_67 rfl (lv_at hl 0 rfl) ?_
        refine gf_Desk_processes B hP (by decide) L_Desk_11 d_Desk_handle_68 ?_
        refine lv_iload_n hx hb d_Desk_handle_71 rfl (lv_at hl 1 rfl) ?_
        obtain ⟨j22, ej23, hj24, hn25, hF⟩ := vG_some hF
        refine al_AProc B hP (by decide) hn25 ej23 hj24 d_Desk_handle_72 ?_
        refine lv_iload_n hx hb d_Desk_handle_73 rfl (lv_at hl 2 rfl) ?_
        obtain ⟨r28, σ26, q27, hF⟩ := vB2_some hF
        refine ed_cvI (As := [.int x2]) (rest := []) B hP hD hS hA (C_Proc_rightsOf l D ad ca j22 x2 σ9 r28 σ26 hj24 q27) me_Proc_rightsOf mv_Proc_rightsOf L_Desk_301 (ed_rc_Proc B hP hj24) ⟨rfl, rfl⟩ ⟨Nat.le_of_ble_eq_true rfl, Nat.le_of_ble_eq_true rfl⟩ rfl rfl hl.1 (lv_room (Nat.le_of_ble_eq_true rfl)) d_Desk_handle_74 (fun H locs hP hD hS => ?_)
        exact ed_rI B hr hA hP hD hS (vP hF) d_Desk_handle_77
      have hF := vIf c21 hF
      refine lv_lookup (off := 47) (tgt := 78) hx hb d_Desk_handle_31 (by decide) (by rw [lv_osw c13 (by decide)]; rw [lv_osw c21 (by decide)]; rfl) (by decide) ?_
      refine lv_iconst (v := (-1)) hx hb d_Desk_handle_78 (by decide) ?_
      exact ed_rI B hr hA hP hD hS (vP hF) d_Desk_handle_79
    · have hF := vIt c12 hF
      refine lv_iconst (v := (-1)) hx hb d_Desk_handle_28 (by decide) ?_
      exact ed_rI B hr hA hP hD hS (vP hF) d_Desk_handle_29
set_option maxHeartbeats 4000000 in
set_option maxRecDepth 100000 in
theorem C_Desk_handle (l : Launch) (D : va_G) (ad : Nat → Nat) (ca : Nat → ClassId) (x1 : Int32) (x2 : Int32) (x3 : Int32) (σ : ed_S) (r : Int32) (σ' : ed_S) (hF : F_Desk_handle x1 x2 x3 σ = some (r, σ')) : ed_MI l y_Desk_handle ws_Desk_handle rm_Desk_handle D ca (ed_w ad ca) [.ref (ad (pDesk 0)), .int x1, .int x2, .int x3] σ r σ' := by
  refine ed_metI (cc := prog_1_method_20_code) (own := "ExecutiveDesk") (nL := 4) (ret := (some .int)) (by decide) rfl rfl (Nat.le_of_ble_eq_true rfl) ?_
  intro p e s m args below meth c A B hr hA
  exact T_Desk_handle B hr hA x1 x2 x3 σ  hF
abbrev ws_Desk_objectsThere : List Cond := Cond.code y_Desk_objectsThere prog_1_method_33_code 3 (some .int) :: ed_tb
abbrev rm_Desk_objectsThere : Room := { frames := 1, cells := 0, slots := 0, locals := 20 }
def F_Desk_objectsThere_4 : Nat → Int32 → Int32 → ed_S → Option (Int32 × ed_S)
  | 0, _, _, _ => none
  | n + 1, x1, x2, σ => (if 16 ≤ x2 then (some (x1, σ)) else (vG x2 16 fun j2 => (vB2 (F_Obj_isThere j2 σ) fun r8 σ6 => (if r8 = 0 then ((F_Desk_objectsThere_4  n) x1 (x2 + 1) σ6) else ((F_Desk_objectsThere_4  n) (x1 + 1) (x2 + 1) σ6)))))
def F_Desk_objectsThere (σ : ed_S) : Option (Int32 × ed_S) := (F_Desk_objectsThere_4  ed_fu 0 0 σ)
set_option maxHeartbeats 4000000 in
set_option maxRecDepth 100000 in
theorem T_Desk_objectsThere_4 {r : Int32} {σ' : ed_S} (B : ed_B p s m args meth c prog_1_method_33_code "ExecutiveDesk" 3 D ca) (hr : meth.sig.returnType = (some .int)) (hA : ∀ q : Nat, s.heap.size ≤ q → A q) : ∀ (n : Nat) (x1 : Int32) (x2 : Int32) (σ : ed_S), F_Desk_objectsThere_4  n x1 x2 σ = some (r, σ') → ed_G p l e rm_Desk_objectsThere s m args below meth c D ca (ed_w ad ca) A (ed_QI D ca (ed_w ad ca) A below args s r σ') 3 4 [(0, .ref (ad (pDesk 0))), (1, .int x1), (2, .int x2)] [] σ := by
  have hx := B.1
  have hb := B.2.1
  intro n
  induction n with
  | zero => intro x1 x2 σ  hF; exact absurd hF (by intro h; cases h)
  | succ n kk4 =>
    intro x1 x2 σ  hF H locs ls hP hD hS hl
    have hF : (if 16 ≤ x2 then (some (x1, σ)) else (vG x2 16 fun j2 => (vB2 (F_Obj_isThere j2 σ) fun r8 σ6 => (if r8 = 0 then ((F_Desk_objectsThere_4  n) x1 (x2 + 1) σ6) else ((F_Desk_objectsThere_4  n) (x1 + 1) (x2 + 1) σ6))))) = some (r, σ') := hF
    refine lv_iload_n hx hb d_Desk_objectsThere_4 rfl (lv_at hl 2 rfl) ?_
    refine lv_bipush (v := 16) hx hb d_Desk_objectsThere_5 (by decide) ?_
    refine lv_icmp_ge (tgt := 31) hx hb d_Desk_objectsThere_7 (by decide) (fun c1 => ?_) (fun c1 => ?_)
    · have hF := vIt c1 hF
      refine lv_iload_n hx hb d_Desk_objectsThere_31 rfl (lv_at hl 1 rfl) ?_
      exact ed_rI B hr hA hP hD hS (vP hF) d_Desk_objectsThere_32
    · have hF := vIf c1 hF
      refine lv_aload_n hx hb d_Desk_objectsThere_10 rfl (lv_at hl 0 rfl) ?_
      refine gf_Desk_objects B hP (by decide) L_Desk_29 d_Desk_objectsThere_11 ?_
      refine lv_iload_n hx hb d_Desk_objectsThere_14 rfl (lv_at hl 2 rfl) ?_
      obtain ⟨j2, ej3, hj4, hn5, hF⟩ := vG_some hF
      refine al_AObj B hP (by decide) hn5 ej3 hj4 d_Desk_objectsThere_15 ?_
      obtain ⟨r8, σ6, q7, hF⟩ := vB2_some hF
      refine ed_cvI (As := []) (rest := []) B hP hD hS hA (C_Obj_isThere l D ad ca j2 σ r8 σ6 hj4 q7) me_Obj_isThere mv_Obj_isThere L_Desk_316 (ed_rc_Obj B hP hj4) ⟨rfl, rfl⟩ ⟨Nat.le_of_ble_eq_true rfl, Nat.le_of_ble_eq_true rfl⟩ rfl rfl hl.1 (lv_room (Nat.le_of_ble_eq_true rfl)) d_Desk_objectsThere_16 (fun H locs hP hD hS => ?_)
      refine lv_if_eq (tgt := 25) hx hb d_Desk_objectsThere_19 (by decide) (fun c9 => ?_) (fun c9 => ?_)
      · have hF := vIt c9 hF
        refine lv_iinc (v := (x2 + 1)) (lv' := [(2, .int (x2 + 1)), (0, .ref (ad (pDesk 0))), (1, .int x1)]) hx hb d_Desk_objectsThere_25 hl (k := 2) rfl rfl (by decide) rfl (fun ls hl => ?_)
        refine lv_goto (tgt := 4) hx hb d_Desk_objectsThere_28 (by decide) ?_
        exact kk4 x1 (x2 + 1) σ6  hF _ _ _ hP hD hS (lv_sub hl [1, 2, 0] rfl)
      · have hF := vIf c9 hF
        refine lv_iinc (v := (x1 + 1)) (lv' := [(1, .int (x1 + 1)), (0, .ref (ad (pDesk 0))), (2, .int x2)]) hx hb d_Desk_objectsThere_22 hl (k := 1) rfl rfl (by decide) rfl (fun ls hl => ?_)
        refine lv_iinc (v := (x2 + 1)) (lv' := [(2, .int (x2 + 1)), (1, .int (x1 + 1)), (0, .ref (ad (pDesk 0)))]) hx hb d_Desk_objectsThere_25 hl (k := 2) rfl rfl (by decide) rfl (fun ls hl => ?_)
        refine lv_goto (tgt := 4) hx hb d_Desk_objectsThere_28 (by decide) ?_
        exact kk4 (x1 + 1) (x2 + 1) σ6  hF _ _ _ hP hD hS (lv_sub hl [2, 1, 0] rfl)
set_option maxHeartbeats 4000000 in
set_option maxRecDepth 100000 in
theorem T_Desk_objectsThere {r : Int32} {σ' : ed_S} (B : ed_B p s m args meth c prog_1_method_33_code "ExecutiveDesk" 3 D ca) (hr : meth.sig.returnType = (some .int)) (hA : ∀ q : Nat, s.heap.size ≤ q → A q) : ∀ (σ : ed_S), F_Desk_objectsThere   σ = some (r, σ') → ed_G p l e rm_Desk_objectsThere s m args below meth c D ca (ed_w ad ca) A (ed_QI D ca (ed_w ad ca) A below args s r σ') 3 0 [(0, .ref (ad (pDesk 0)))] [] σ := by
  have hx := B.1
  have hb := B.2.1
  intro  σ  hF H locs ls hP hD hS hl
  have hF : (F_Desk_objectsThere_4  ed_fu 0 0 σ) = some (r, σ') := hF
  refine lv_iconst (v := 0) hx hb d_Desk_objectsThere_0 (by decide) ?_
  refine lv_istore_n (lv' := [(1, .int 0), (0, .ref (ad (pDesk 0)))]) hx hb d_Desk_objectsThere_1 rfl hl (by decide) rfl (fun ls hl => ?_)
  refine lv_iconst (v := 0) hx hb d_Desk_objectsThere_2 (by decide) ?_
  refine lv_istore_n (lv' := [(2, .int 0), (1, .int 0), (0, .ref (ad (pDesk 0)))]) hx hb d_Desk_objectsThere_3 rfl hl (by decide) rfl (fun ls hl => ?_)
  exact T_Desk_objectsThere_4 B hr hA  ed_fu 0 0 σ  hF _ _ _ hP hD hS (lv_sub hl [2, 1, 0] rfl)
set_option maxHeartbeats 4000000 in
set_option maxRecDepth 100000 in
theorem C_Desk_objectsThere (l : Launch) (D : va_G) (ad : Nat → Nat) (ca : Nat → ClassId) (σ : ed_S) (r : Int32) (σ' : ed_S) (hF : F_Desk_objectsThere  σ = some (r, σ')) : ed_MI l y_Desk_objectsThere ws_Desk_objectsThere rm_Desk_objectsThere D ca (ed_w ad ca) [.ref (ad (pDesk 0))] σ r σ' := by
  refine ed_metI (cc := prog_1_method_33_code) (own := "ExecutiveDesk") (nL := 3) (ret := (some .int)) (by decide) rfl rfl (Nat.le_of_ble_eq_true rfl) ?_
  intro p e s m args below meth c A B hr hA
  exact T_Desk_objectsThere B hr hA  σ  hF
abbrev ws_Desk_count : List Cond := Cond.code y_Desk_count prog_1_method_21_code 2 (some .int) :: ed_tb
abbrev rm_Desk_count : Room := { frames := 2, cells := 0, slots := 0, locals := 42 }
def F_Desk_count (x1 : Int32) (σ : ed_S) : Option (Int32 × ed_S) := (if x1 = 0 then (some ((σ 5 0 0), σ)) else (if x1 = 1 then (some ((σ 3 0 0), σ)) else (if x1 = 2 then (some ((σ 4 0 0), σ)) else (if x1 = 3 then (some ((σ 0 0 0), σ)) else (if x1 = 4 then (some ((σ 1 0 0), σ)) else (if x1 = 5 then (vB2 (F_Desk_objectsThere  σ) fun r9 σ7 => (some (r9, σ7))) else (if x1 = 6 then (some ((σ 18 33 0), σ)) else (if x1 = 7 then (some ((σ 7 0 0), σ)) else (if x1 = 8 then (some ((σ 2 0 0), σ)) else (some ((-1), σ)))))))))))
set_option maxHeartbeats 4000000 in
set_option maxRecDepth 100000 in
theorem T_Desk_count {r : Int32} {σ' : ed_S} (B : ed_B p s m args meth c prog_1_method_21_code "ExecutiveDesk" 2 D ca) (hr : meth.sig.returnType = (some .int)) (hA : ∀ q : Nat, s.heap.size ≤ q → A q) : ∀ (x1 : Int32) (σ : ed_S), F_Desk_count  x1 σ = some (r, σ') → ed_G p l e rm_Desk_count s m args below meth c D ca (ed_w ad ca) A (ed_QI D ca (ed_w ad ca) A below args s r σ') 2 0 [(0, .ref (ad (pDesk 0))), (1, .int x1)] [] σ := by
  have hx := B.1
  have hb := B.2.1
  intro x1 σ  hF H locs ls hP hD hS hl
  have hF : (if x1 = 0 then (some ((σ 5 0 0), σ)) else (if x1 = 1 then (some ((σ 3 0 0), σ)) else (if x1 = 2 then (some ((σ 4 0 0), σ)) else (if x1 = 3 then (some ((σ 0 0 0), σ)) else (if x1 = 4 then (some ((σ 1 0 0), σ)) else (if x1 = 5 then (vB2 (F_Desk_objectsThere  σ) fun r9 σ7 => (some (r9, σ7))) else (if x1 = 6 then (some ((σ 18 33 0), σ)) else (if x1 = 7 then (some ((σ 7 0 0), σ)) else (if x1 = 8 then (some ((σ 2 0 0), σ)) else (some ((-1), σ))))))))))) = some (r, σ') := hF
  refine lv_iload_n hx hb d_Desk_count_0 rfl (lv_at hl 1 rfl) ?_
  rcases Decidable.em (x1 = 0) with c1 | c1
  · have hF := vIt c1 hF
    refine lv_tableIn (off := 51) (tgt := 52) hx hb d_Desk_count_1 (by rw [c1]; decide) (by rw [c1]; decide) (by rw [c1]; rfl) (by decide) ?_
    refine lv_aload_n hx hb d_Desk_count_52 rfl (lv_at hl 0 rfl) ?_
    refine gf_Desk_scheduler B hP (by decide) L_Desk_18 d_Desk_count_53 ?_
    refine gf_Sched_running B hP (by decide) L_Desk_92 d_Desk_count_56 ?_
    exact ed_rI B hr hA hP hD hS (vP hF) d_Desk_count_59
  have hF := vIf c1 hF
  rcases Decidable.em (x1 = 1) with c2 | c2
  · have hF := vIt c2 hF
    refine lv_tableIn (off := 59) (tgt := 60) hx hb d_Desk_count_1 (by rw [c2]; decide) (by rw [c2]; decide) (by rw [c2]; rfl) (by decide) ?_
    refine lv_aload_n hx hb d_Desk_count_60 rfl (lv_at hl 0 rfl) ?_
    refine gf_Desk_clock B hP (by decide) L_Desk_249 d_Desk_count_61 ?_
    exact ed_rI B hr hA hP hD hS (vP hF) d_Desk_count_64
  have hF := vIf c2 hF
  rcases Decidable.em (x1 = 2) with c3 | c3
  · have hF := vIt c3 hF
    refine lv_tableIn (off := 64) (tgt := 65) hx hb d_Desk_count_1 (by rw [c3]; decide) (by rw [c3]; decide) (by rw [c3]; rfl) (by decide) ?_
    refine lv_aload_n hx hb d_Desk_count_65 rfl (lv_at hl 0 rfl) ?_
    refine gf_Desk_currentLevel B hP (by decide) L_Desk_163 d_Desk_count_66 ?_
    exact ed_rI B hr hA hP hD hS (vP hF) d_Desk_count_69
  have hF := vIf c3 hF
  rcases Decidable.em (x1 = 3) with c4 | c4
  · have hF := vIt c4 hF
    refine lv_tableIn (off := 69) (tgt := 70) hx hb d_Desk_count_1 (by rw [c4]; decide) (by rw [c4]; decide) (by rw [c4]; rfl) (by decide) ?_
    refine lv_aload_n hx hb d_Desk_count_70 rfl (lv_at hl 0 rfl) ?_
    refine gf_Desk_processCount B hP (by decide) L_Desk_58 d_Desk_count_71 ?_
    exact ed_rI B hr hA hP hD hS (vP hF) d_Desk_count_74
  have hF := vIf c4 hF
  rcases Decidable.em (x1 = 4) with c5 | c5
  · have hF := vIt c5 hF
    refine lv_tableIn (off := 74) (tgt := 75) hx hb d_Desk_count_1 (by rw [c5]; decide) (by rw [c5]; decide) (by rw [c5]; rfl) (by decide) ?_
    refine lv_aload_n hx hb d_Desk_count_75 rfl (lv_at hl 0 rfl) ?_
    refine gf_Desk_threadCount B hP (by decide) L_Desk_69 d_Desk_count_76 ?_
    exact ed_rI B hr hA hP hD hS (vP hF) d_Desk_count_79
  have hF := vIf c5 hF
  rcases Decidable.em (x1 = 5) with c6 | c6
  · have hF := vIt c6 hF
    refine lv_tableIn (off := 79) (tgt := 80) hx hb d_Desk_count_1 (by rw [c6]; decide) (by rw [c6]; decide) (by rw [c6]; rfl) (by decide) ?_
    refine lv_aload_n hx hb d_Desk_count_80 rfl (lv_at hl 0 rfl) ?_
    obtain ⟨r9, σ7, q8, hF⟩ := vB2_some hF
    refine ed_cvI (As := []) (rest := []) B hP hD hS hA (C_Desk_objectsThere l D ad ca  σ r9 σ7  q8) me_Desk_objectsThere mv_Desk_objectsThere L_Desk_304 (ed_rc_Desk B hP (by decide)) ⟨rfl, rfl⟩ ⟨Nat.le_of_ble_eq_true rfl, Nat.le_of_ble_eq_true rfl⟩ rfl rfl hl.1 (lv_room (Nat.le_of_ble_eq_true rfl)) d_Desk_count_81 (fun H locs hP hD hS => ?_)
    exact ed_rI B hr hA hP hD hS (vP hF) d_Desk_count_84
  have hF := vIf c6 hF
  rcases Decidable.em (x1 = 6) with c10 | c10
  · have hF := vIt c10 hF
    refine lv_tableIn (off := 84) (tgt := 85) hx hb d_Desk_count_1 (by rw [c10]; decide) (by rw [c10]; decide) (by rw [c10]; rfl) (by decide) ?_
    refine lv_aload_n hx hb d_Desk_count_85 rfl (lv_at hl 0 rfl) ?_
    refine gf_Desk_interrupts B hP (by decide) L_Desk_48 d_Desk_count_86 ?_
    refine gf_Row_size B hP (by decide) L_Desk_181 d_Desk_count_89 ?_
    exact ed_rI B hr hA hP hD hS (vP hF) d_Desk_count_92
  have hF := vIf c10 hF
  rcases Decidable.em (x1 = 7) with c11 | c11
  · have hF := vIt c11 hF
    refine lv_tableIn (off := 92) (tgt := 93) hx hb d_Desk_count_1 (by rw [c11]; decide) (by rw [c11]; decide) (by rw [c11]; rfl) (by decide) ?_
    refine lv_aload_n hx hb d_Desk_count_93 rfl (lv_at hl 0 rfl) ?_
    refine gf_Desk_scheduler B hP (by decide) L_Desk_18 d_Desk_count_94 ?_
    refine gf_Sched_switches B hP (by decide) L_Desk_307 d_Desk_count_97 ?_
    exact ed_rI B hr hA hP hD hS (vP hF) d_Desk_count_100
  have hF := vIf c11 hF
  rcases Decidable.em (x1 = 8) with c12 | c12
  · have hF := vIt c12 hF
    refine lv_tableIn (off := 100) (tgt := 101) hx hb d_Desk_count_1 (by rw [c12]; decide) (by rw [c12]; decide) (by rw [c12]; rfl) (by decide) ?_
    refine lv_aload_n hx hb d_Desk_count_101 rfl (lv_at hl 0 rfl) ?_
    refine gf_Desk_overCount B hP (by decide) L_Desk_310 d_Desk_count_102 ?_
    exact ed_rI B hr hA hP hD hS (vP hF) d_Desk_count_105
  have hF := vIf c12 hF
  refine lv_tableOut (tgt := 106) hx hb d_Desk_count_1 (by have qc1 := lv_neT (a := 0) c1 (by decide); have qc2 := lv_neT (a := 1) c2 (by decide); have qc3 := lv_neT (a := 2) c3 (by decide); have qc4 := lv_neT (a := 3) c4 (by decide); have qc5 := lv_neT (a := 4) c5 (by decide); have qc6 := lv_neT (a := 5) c6 (by decide); have qc10 := lv_neT (a := 6) c10 (by decide); have qc11 := lv_neT (a := 7) c11 (by decide); have qc12 := lv_neT (a := 8) c12 (by decide); omega) (by decide) ?_
  refine lv_iconst (v := (-1)) hx hb d_Desk_count_106 (by decide) ?_
  exact ed_rI B hr hA hP hD hS (vP hF) d_Desk_count_107
set_option maxHeartbeats 4000000 in
set_option maxRecDepth 100000 in
theorem C_Desk_count (l : Launch) (D : va_G) (ad : Nat → Nat) (ca : Nat → ClassId) (x1 : Int32) (σ : ed_S) (r : Int32) (σ' : ed_S) (hF : F_Desk_count x1 σ = some (r, σ')) : ed_MI l y_Desk_count ws_Desk_count rm_Desk_count D ca (ed_w ad ca) [.ref (ad (pDesk 0)), .int x1] σ r σ' := by
  refine ed_metI (cc := prog_1_method_21_code) (own := "ExecutiveDesk") (nL := 2) (ret := (some .int)) (by decide) rfl rfl (Nat.le_of_ble_eq_true rfl) ?_
  intro p e s m args below meth c A B hr hA
  exact T_Desk_count B hr hA x1 σ  hF
end EDT
