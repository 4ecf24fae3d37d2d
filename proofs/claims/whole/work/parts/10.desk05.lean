section EDT
variable {p : Program} {l : Launch} {e : Env} {s : State} {m : MethodId} {args : Array Value} {below : List Frame} {meth : Method} {c : Code} {D : va_G} {ad : Nat → Nat} {ca : Nat → ClassId} {A : Nat → Prop}
abbrev ws_Desk_await : List Cond := Cond.code y_Desk_await prog_1_method_9_code 10 (some .int) :: ed_tb
abbrev rm_Desk_await : Room := { frames := 4, cells := 0, slots := 0, locals := 85 }
def F_Desk_await_169 (x1 : Int32) (x2 : Int32) (x3 : Int32) (x4 : Int32) (x5 : Int32) (i6 : Nat) (x7 : Int32) (i8 : Nat) (σ : ed_S) : Option (Int32 × ed_S) := (vB2 (F_Desk_satisfy x7 σ) fun r3 σ1 => (if r3 = (-10) then (if x5 = 0 then (some ((-11), σ1)) else (vB1 (F_Desk_beginWait x7 x5 σ1) fun σ6 => (vB1 (F_Desk_lookWhoRuns  σ6) fun σ8 => (some ((-10), σ8))))) else (some (r3, σ1))))
def F_Desk_await (x1 : Int32) (x2 : Int32) (x3 : Int32) (x4 : Int32) (x5 : Int32) (σ : ed_S) : Option (Int32 × ed_S) := (if (σ 5 0 0) = (-1) then (some ((-3), σ)) else (if (σ 4 0 0) = 1 then (some ((-4), σ)) else (vBr (F_Desk_processOfRunning  σ) 4 fun j5 σ3 => (vB2 (F_Desk_isWithin x4 0 3 σ3) fun r9 σ7 => (if r9 = 0 then (some ((-1), σ7)) else (vB2 (F_Desk_isWithin x5 (-1) 99 σ7) fun r13 σ11 => (if r13 = 0 then (some ((-1), σ11)) else (vB2 (F_Desk_canBeAwaited j5 x1 x2 x3 σ11) fun r17 σ15 => (if r17 = 0 then (some ((-1), σ15)) else (vB2 (F_Proc_lacks j5 x1 4 σ15) fun r21 σ19 => (if r21 = 0 then (vB2 (F_Proc_lacks j5 x2 4 σ19) fun r25 σ23 => (if r25 = 0 then (vB2 (F_Proc_lacks j5 x3 4 σ23) fun r29 σ27 => (if r29 = 0 then (vG (σ27 5 0 0) 8 fun j31 => (vB2 (F_Proc_objectOf j5 x1 σ27) fun r37 σ35 => (vB2 (F_Proc_objectOf j5 x2 σ35) fun r40 σ38 => (vB2 (F_Proc_objectOf j5 x3 σ38) fun r43 σ41 => (vB1 (F_Thr_wish j31 r37 r40 r43 x4 σ41) fun σ44 => (if (σ44 16 j31 0) = 0 then (F_Desk_await_169  x1 x2 x3 x4 x5 j5 (σ27 5 0 0) j31 σ44) else (if (σ44 18 j31 0) ≤ 0 then (F_Desk_await_169  x1 x2 x3 x4 x5 j5 (σ27 5 0 0) j31 σ44) else (vB1 (F_Thr_deliverCalls j31 σ44) fun σ48 => (some ((-12), σ48)))))))))) else (some ((-5), σ27)))) else (some ((-5), σ23)))) else (some ((-5), σ19)))))))))))))
set_option maxHeartbeats 4000000 in
set_option maxRecDepth 100000 in
theorem T_Desk_await_169 {r : Int32} {σ' : ed_S} (B : ed_B p s m args meth c prog_1_method_9_code "ExecutiveDesk" 10 D ca) (hr : meth.sig.returnType = (some .int)) (hA : ∀ q : Nat, s.heap.size ≤ q → A q) : ∀ (x1 : Int32) (x2 : Int32) (x3 : Int32) (x4 : Int32) (x5 : Int32) (i6 : Nat) (x7 : Int32) (i8 : Nat) (σ : ed_S), i6 < 4 → i8 < 8 → F_Desk_await_169  x1 x2 x3 x4 x5 i6 x7 i8 σ = some (r, σ') → ed_G p l e rm_Desk_await s m args below meth c D ca (ed_w ad ca) A (ed_QI D ca (ed_w ad ca) A below args s r σ') 10 169 [(0, .ref (ad (pDesk 0))), (1, .int x1), (2, .int x2), (3, .int x3), (4, .int x4), (5, .int x5), (6, .ref (ad (pProc i6))), (7, .int x7), (8, .ref (ad (pThr i8)))] [] σ := by
  have hx := B.1
  have hb := B.2.1
  intro x1 x2 x3 x4 x5 i6 x7 i8 σ h6 h8 hF H locs ls hP hD hS hl
  have hF : (vB2 (F_Desk_satisfy x7 σ) fun r3 σ1 => (if r3 = (-10) then (if x5 = 0 then (some ((-11), σ1)) else (vB1 (F_Desk_beginWait x7 x5 σ1) fun σ6 => (vB1 (F_Desk_lookWhoRuns  σ6) fun σ8 => (some ((-10), σ8))))) else (some (r3, σ1)))) = some (r, σ') := hF
  refine lv_aload_n hx hb d_Desk_await_169 rfl (lv_at hl 0 rfl) ?_
  refine lv_iload hx hb d_Desk_await_170 (lv_at hl 7 rfl) ?_
  obtain ⟨r3, σ1, q2, hF⟩ := vB2_some hF
  refine ed_cvI (As := [.int x7]) (rest := []) B hP hD hS hA (C_Desk_satisfy l D ad ca x7 σ r3 σ1  q2) me_Desk_satisfy mv_Desk_satisfy L_Desk_185 (ed_rc_Desk B hP (by decide)) ⟨rfl, rfl⟩ ⟨Nat.le_of_ble_eq_true rfl, Nat.le_of_ble_eq_true rfl⟩ rfl rfl hl.1 (lv_room (Nat.le_of_ble_eq_true rfl)) d_Desk_await_172 (fun H locs hP hD hS => ?_)
  refine lv_istore (lv' := [(9, .int r3), (0, .ref (ad (pDesk 0))), (1, .int x1), (2, .int x2), (3, .int x3), (4, .int x4), (5, .int x5), (6, .ref (ad (pProc i6))), (7, .int x7), (8, .ref (ad (pThr i8)))]) hx hb d_Desk_await_175 hl (by decide) rfl (fun ls hl => ?_)
  refine lv_iload hx hb d_Desk_await_177 (lv_at hl 0 rfl) ?_
  refine lv_bipush (v := (-10)) hx hb d_Desk_await_179 (by decide) ?_
  refine lv_icmp_eq (tgt := 187) hx hb d_Desk_await_181 (by decide) (fun c4 => ?_) (fun c4 => ?_)
  · have hF := vIt c4 hF
    refine lv_iload hx hb d_Desk_await_187 (lv_at hl 6 rfl) ?_
    refine lv_if_ne (tgt := 195) hx hb d_Desk_await_189 (by decide) (fun c5 => ?_) (fun c5 => ?_)
    · have hF := vIf c5 hF
      refine lv_aload_n hx hb d_Desk_await_195 rfl (lv_at hl 1 rfl) ?_
      refine lv_iload hx hb d_Desk_await_196 (lv_at hl 8 rfl) ?_
      refine lv_iload hx hb d_Desk_await_198 (lv_at hl 6 rfl) ?_
      obtain ⟨σ6, q7, hF⟩ := vB1_some hF
      refine ed_cvV (As := [.int x7, .int x5]) (rest := []) B hP hD hS hA (C_Desk_beginWait l D ad ca x7 x5 σ1 σ6  q7) me_Desk_beginWait mv_Desk_beginWait L_Desk_188 (ed_rc_Desk B hP (by decide)) ⟨rfl, rfl⟩ ⟨Nat.le_of_ble_eq_true rfl, Nat.le_of_ble_eq_true rfl⟩ rfl rfl hl.1 (lv_room (Nat.le_of_ble_eq_true rfl)) d_Desk_await_200 (fun H locs hP hD hS => ?_)
      refine lv_aload_n hx hb d_Desk_await_203 rfl (lv_at hl 1 rfl) ?_
      obtain ⟨σ8, q9, hF⟩ := vB1_some hF
      refine ed_cvV (As := []) (rest := []) B hP hD hS hA (C_Desk_lookWhoRuns l D ad ca  σ6 σ8  q9) me_Desk_lookWhoRuns mv_Desk_lookWhoRuns L_Desk_89 (ed_rc_Desk B hP (by decide)) ⟨rfl, rfl⟩ ⟨Nat.le_of_ble_eq_true rfl, Nat.le_of_ble_eq_true rfl⟩ rfl rfl hl.1 (lv_room (Nat.le_of_ble_eq_true rfl)) d_Desk_await_204 (fun H locs hP hD hS => ?_)
      refine lv_bipush (v := (-10)) hx hb d_Desk_await_207 (by decide) ?_
      exact ed_rI B hr hA hP hD hS (vP hF) d_Desk_await_209
    · have hF := vIt c5 hF
      refine lv_bipush (v := (-11)) hx hb d_Desk_await_192 (by decide) ?_
      exact ed_rI B hr hA hP hD hS (vP hF) d_Desk_await_194
  · have hF := vIf c4 hF
    refine lv_iload hx hb d_Desk_await_184 (lv_at hl 0 rfl) ?_
    exact ed_rI B hr hA hP hD hS (vP hF) d_Desk_await_186
set_option maxHeartbeats 4000000 in
set_option maxRecDepth 100000 in
theorem T_Desk_await {r : Int32} {σ' : ed_S} (B : ed_B p s m args meth c prog_1_method_9_code "ExecutiveDesk" 10 D ca) (hr : meth.sig.returnType = (some .int)) (hA : ∀ q : Nat, s.heap.size ≤ q → A q) : ∀ (x1 : Int32) (x2 : Int32) (x3 : Int32) (x4 : Int32) (x5 : Int32) (σ : ed_S), F_Desk_await  x1 x2 x3 x4 x5 σ = some (r, σ') → ed_G p l e rm_Desk_await s m args below meth c D ca (ed_w ad ca) A (ed_QI D ca (ed_w ad ca) A below args s r σ') 10 0 [(0, .ref (ad (pDesk 0))), (1, .int x1), (2, .int x2), (3, .int x3), (4, .int x4), (5, .int x5)] [] σ := by
  have hx := B.1
  have hb := B.2.1
  intro x1 x2 x3 x4 x5 σ  hF H locs ls hP hD hS hl
  have hF : (if (σ 5 0 0) = (-1) then (some ((-3), σ)) else (if (σ 4 0 0) = 1 then (some ((-4), σ)) else (vBr (F_Desk_processOfRunning  σ) 4 fun j5 σ3 => (vB2 (F_Desk_isWithin x4 0 3 σ3) fun r9 σ7 => (if r9 = 0 then (some ((-1), σ7)) else (vB2 (F_Desk_isWithin x5 (-1) 99 σ7) fun r13 σ11 => (if r13 = 0 then (some ((-1), σ11)) else (vB2 (F_Desk_canBeAwaited j5 x1 x2 x3 σ11) fun r17 σ15 => (if r17 = 0 then (some ((-1), σ15)) else (vB2 (F_Proc_lacks j5 x1 4 σ15) fun r21 σ19 => (if r21 = 0 then (vB2 (F_Proc_lacks j5 x2 4 σ19) fun r25 σ23 => (if r25 = 0 then (vB2 (F_Proc_lacks j5 x3 4 σ23) fun r29 σ27 => (if r29 = 0 then (vG (σ27 5 0 0) 8 fun j31 => (vB2 (F_Proc_objectOf j5 x1 σ27) fun r37 σ35 => (vB2 (F_Proc_objectOf j5 x2 σ35) fun r40 σ38 => (vB2 (F_Proc_objectOf j5 x3 σ38) fun r43 σ41 => (vB1 (F_Thr_wish j31 r37 r40 r43 x4 σ41) fun σ44 => (if (σ44 16 j31 0) = 0 then (F_Desk_await_169  x1 x2 x3 x4 x5 j5 (σ27 5 0 0) j31 σ44) else (if (σ44 18 j31 0) ≤ 0 then (F_Desk_await_169  x1 x2 x3 x4 x5 j5 (σ27 5 0 0) j31 σ44) else (vB1 (F_Thr_deliverCalls j31 σ44) fun σ48 => (some ((-12), σ48)))))))))) else (some ((-5), σ27)))) else (some ((-5), σ23)))) else (some ((-5), σ19))))))))))))) = some (r, σ') := hF
  refine lv_aload_n hx hb d_Desk_await_0 rfl (lv_at hl 0 rfl) ?_
  refine gf_Desk_scheduler B hP (by decide) L_Desk_18 d_Desk_await_1 ?_
  refine gf_Sched_running B hP (by decide) L_Desk_92 d_Desk_await_4 ?_
  refine lv_iconst (v := (-1)) hx hb d_Desk_await_7 (by decide) ?_
  refine lv_icmp_ne (tgt := 14) hx hb d_Desk_await_8 (by decide) (fun c1 => ?_) (fun c1 => ?_)
  · have hF := vIf c1 hF
    refine lv_aload_n hx hb d_Desk_await_14 rfl (lv_at hl 0 rfl) ?_
    refine gf_Desk_currentLevel B hP (by decide) L_Desk_163 d_Desk_await_15 ?_
    refine lv_iconst (v := 1) hx hb d_Desk_await_18 (by decide) ?_
    refine lv_icmp_ne (tgt := 25) hx hb d_Desk_await_19 (by decide) (fun c2 => ?_) (fun c2 => ?_)
    · have hF := vIf c2 hF
      refine lv_aload_n hx hb d_Desk_await_25 rfl (lv_at hl 0 rfl) ?_
      obtain ⟨j5, σ3, q4, hj6, hF⟩ := vBr_some hF
      refine ed_cvR (As := []) (rest := []) B hP hD hS hA (C_Desk_processOfRunning l D ad ca  σ j5 σ3  q4) me_Desk_processOfRunning mv_Desk_processOfRunning L_Desk_102 (ed_rc_Desk B hP (by decide)) ⟨rfl, rfl⟩ ⟨Nat.le_of_ble_eq_true rfl, Nat.le_of_ble_eq_true rfl⟩ rfl rfl hl.1 (lv_room (Nat.le_of_ble_eq_true rfl)) d_Desk_await_26 (fun H locs hP hD hS => ?_)
      refine lv_astore (lv' := [(6, .ref (ad (pProc j5))), (0, .ref (ad (pDesk 0))), (1, .int x1), (2, .int x2), (3, .int x3), (4, .int x4), (5, .int x5)]) hx hb d_Desk_await_29 hl (by decide) rfl (fun ls hl => ?_)
      refine lv_iload hx hb d_Desk_await_31 (lv_at hl 5 rfl) ?_
      refine lv_iconst (v := 0) hx hb d_Desk_await_33 (by decide) ?_
      refine lv_iconst (v := 3) hx hb d_Desk_await_34 (by decide) ?_
      obtain ⟨r9, σ7, q8, hF⟩ := vB2_some hF
      refine ed_csI (As := [.int x4, .int 0, .int 3]) (rest := []) B hP hD hS hA (C_Desk_isWithin l D ad ca x4 0 3 σ3 r9 σ7  q8) me_Desk_isWithin st_Desk_isWithin L_Desk_54 ⟨rfl, rfl⟩ ⟨Nat.le_of_ble_eq_true rfl, Nat.le_of_ble_eq_true rfl⟩ rfl rfl hl.1 (lv_room (Nat.le_of_ble_eq_true rfl)) d_Desk_await_35 (fun H locs hP hD hS => ?_)
      refine lv_if_eq (tgt := 64) hx hb d_Desk_await_38 (by decide) (fun c10 => ?_) (fun c10 => ?_)
      · have hF := vIt c10 hF
        refine lv_iconst (v := (-1)) hx hb d_Desk_await_64 (by decide) ?_
        exact ed_rI B hr hA hP hD hS (vP hF) d_Desk_await_65
      · have hF := vIf c10 hF
        refine lv_iload hx hb d_Desk_await_41 (lv_at hl 6 rfl) ?_
        refine lv_iconst (v := (-1)) hx hb d_Desk_await_43 (by decide) ?_
        refine lv_bipush (v := 99) hx hb d_Desk_await_44 (by decide) ?_
        obtain ⟨r13, σ11, q12, hF⟩ := vB2_some hF
        refine ed_csI (As := [.int x5, .int (-1), .int 99]) (rest := []) B hP hD hS hA (C_Desk_isWithin l D ad ca x5 (-1) 99 σ7 r13 σ11  q12) me_Desk_isWithin st_Desk_isWithin L_Desk_54 ⟨rfl, rfl⟩ ⟨Nat.le_of_ble_eq_true rfl, Nat.le_of_ble_eq_true rfl⟩ rfl rfl hl.1 (lv_room (Nat.le_of_ble_eq_true rfl)) d_Desk_await_46 (fun H locs hP hD hS => ?_)
        refine lv_if_eq (tgt := 64) hx hb d_Desk_await_49 (by decide) (fun c14 => ?_) (fun c14 => ?_)
        · have hF := vIt c14 hF
          refine lv_iconst (v := (-1)) hx hb d_Desk_await_64 (by decide) ?_
          exact ed_rI B hr hA hP hD hS (vP hF) d_Desk_await_65
        · have hF := vIf c14 hF
          refine lv_aload_n hx hb d_Desk_await_52 rfl (lv_at hl 1 rfl) ?_
          refine lv_aload hx hb d_Desk_await_53 (lv_at hl 0 rfl) ?_
          refine lv_iload_n hx hb d_Desk_await_55 rfl (lv_at hl 2 rfl) ?_
          refine lv_iload_n hx hb d_Desk_await_56 rfl (lv_at hl 3 rfl) ?_
          refine lv_iload_n hx hb d_Desk_await_57 rfl (lv_at hl 4 rfl) ?_
          obtain ⟨r17, σ15, q16, hF⟩ := vB2_some hF
          refine ed_cvI (As := [.ref (ad (pProc j5)), .int x1, .int x2, .int x3]) (rest := []) B hP hD hS hA (C_Desk_canBeAwaited l D ad ca j5 x1 x2 x3 σ11 r17 σ15 hj6 q16) me_Desk_canBeAwaited mv_Desk_canBeAwaited L_Desk_166 (ed_rc_Desk B hP (by decide)) ⟨rfl, rfl⟩ ⟨Nat.le_of_ble_eq_true rfl, Nat.le_of_ble_eq_true rfl⟩ rfl rfl hl.1 (lv_room (Nat.le_of_ble_eq_true rfl)) d_Desk_await_58 (fun H locs hP hD hS => ?_)
          refine lv_if_ne (tgt := 66) hx hb d_Desk_await_61 (by decide) (fun c18 => ?_) (fun c18 => ?_)
          · have hF := vIf c18 hF
            refine lv_aload hx hb d_Desk_await_66 (lv_at hl 0 rfl) ?_
            refine lv_iload_n hx hb d_Desk_await_68 rfl (lv_at hl 2 rfl) ?_
            refine lv_iconst (v := 4) hx hb d_Desk_await_69 (by decide) ?_
            obtain ⟨r21, σ19, q20, hF⟩ := vB2_some hF
            refine ed_cvI (As := [.int x1, .int 4]) (rest := []) B hP hD hS hA (C_Proc_lacks l D ad ca j5 x1 4 σ15 r21 σ19 hj6 q20) me_Proc_lacks mv_Proc_lacks L_Desk_144 (ed_rc_Proc B hP hj6) ⟨rfl, rfl⟩ ⟨Nat.le_of_ble_eq_true rfl, Nat.le_of_ble_eq_true rfl⟩ rfl rfl hl.1 (lv_room (Nat.le_of_ble_eq_true rfl)) d_Desk_await_70 (fun H locs hP hD hS => ?_)
            refine lv_if_ne (tgt := 96) hx hb d_Desk_await_73 (by decide) (fun c22 => ?_) (fun c22 => ?_)
            · have hF := vIf c22 hF
              refine lv_bipush (v := (-5)) hx hb d_Desk_await_96 (by decide) ?_
              exact ed_rI B hr hA hP hD hS (vP hF) d_Desk_await_98
            · have hF := vIt c22 hF
              refine lv_aload hx hb d_Desk_await_76 (lv_at hl 0 rfl) ?_
              refine lv_iload_n hx hb d_Desk_await_78 rfl (lv_at hl 3 rfl) ?_
              refine lv_iconst (v := 4) hx hb d_Desk_await_79 (by decide) ?_
              obtain ⟨r25, σ23, q24, hF⟩ := vB2_some hF
              refine ed_cvI (As := [.int x2, .int 4]) (rest := []) B hP hD hS hA (C_Proc_lacks l D ad ca j5 x2 4 σ19 r25 σ23 hj6 q24) me_Proc_lacks mv_Proc_lacks L_Desk_144 (ed_rc_Proc B hP hj6) ⟨rfl, rfl⟩ ⟨Nat.le_of_ble_eq_true rfl, Nat.le_of_ble_eq_true rfl⟩ rfl rfl hl.1 (lv_room (Nat.le_of_ble_eq_true rfl)) d_Desk_await_80 (fun H locs hP hD hS => ?_)
              refine lv_if_ne (tgt := 96) hx hb d_Desk_await_83 (by decide) (fun c26 => ?_) (fun c26 => ?_)
              · have hF := vIf c26 hF
                refine lv_bipush (v := (-5)) hx hb d_Desk_await_96 (by decide) ?_
                exact ed_rI B hr hA hP hD hS (vP hF) d_Desk_await_98
              · have hF := vIt c26 hF
                refine lv_aload hx hb d_Desk_await_86 (lv_at hl 0 rfl) ?_
                refine lv_iload_n hx hb d_Desk_await_88 rfl (lv_at hl 4 rfl) ?_
                refine lv_iconst (v := 4) hx hb d_Desk_await_89 (by decide) ?_
                obtain ⟨r29, σ27, q28, hF⟩ := vB2_some hF
                refine ed_cvI (As := [.int x3, .int 4]) (rest := []) B hP hD hS hA (C_Proc_lacks l D ad ca j5 x3 4 σ23 r29 σ27 hj6 q28) me_Proc_lacks mv_Proc_lacks L_Desk_144 (ed_rc_Proc B hP hj6) ⟨rfl, rfl⟩ ⟨Nat.le_of_ble_eq_true rfl, Nat.le_of_ble_eq_true rfl⟩ rfl rfl hl.1 (lv_room (Nat.le_of_ble_eq_true rfl)) d_Desk_await_90 (fun H locs hP hD hS => ?_)
                refine lv_if_eq (tgt := 99) hx hb d_Desk_await_93 (by decide) (fun c30 => ?_) (fun c30 => ?_)
                · have hF := vIt c30 hF
                  refine lv_aload_n hx hb d_Desk_await_99 rfl (lv_at hl 1 rfl) ?_
                  refine gf_Desk_scheduler B hP (by decide) L_Desk_18 d_Desk_await_100 ?_
                  refine gf_Sched_running B hP (by decide) L_Desk_92 d_Desk_await_103 ?_
                  refine lv_istore (lv' := [(7, .int (σ27 5 0 0)), (6, .ref (ad (pProc j5))), (0, .ref (ad (pDesk 0))), (1, .int x1), (2, .int x2), (3, .int x3), (4, .int x4), (5, .int x5)]) hx hb d_Desk_await_106 hl (by decide) rfl (fun ls hl => ?_)
                  refine lv_aload_n hx hb d_Desk_await_108 rfl (lv_at hl 2 rfl) ?_
                  refine gf_Desk_threads B hP (by decide) L_Desk_26 d_Desk_await_109 ?_
                  refine lv_iload hx hb d_Desk_await_112 (lv_at hl 0 rfl) ?_
                  obtain ⟨j31, ej32, hj33, hn34, hF⟩ := vG_some hF
                  refine al_AThr B hP (by decide) hn34 ej32 hj33 d_Desk_await_114 ?_
                  refine lv_astore (lv' := [(8, .ref (ad (pThr j31))), (7, .int (σ27 5 0 0)), (6, .ref (ad (pProc j5))), (0, .ref (ad (pDesk 0))), (1, .int x1), (2, .int x2), (3, .int x3), (4, .int x4), (5, .int x5)]) hx hb d_Desk_await_115 hl (by decide) rfl (fun ls hl => ?_)
                  refine lv_aload hx hb d_Desk_await_117 (lv_at hl 0 rfl) ?_
                  refine lv_aload hx hb d_Desk_await_119 (lv_at hl 2 rfl) ?_
                  refine lv_iload_n hx hb d_Desk_await_121 rfl (lv_at hl 4 rfl) ?_
                  obtain ⟨r37, σ35, q36, hF⟩ := vB2_some hF
                  refine ed_cvI (As := [.int x1]) (rest := [.ref (ad (pThr j31))]) B hP hD hS hA (C_Proc_objectOf l D ad ca j5 x1 σ27 r37 σ35 hj6 q36) me_Proc_objectOf mv_Proc_objectOf L_Desk_134 (ed_rc_Proc B hP hj6) ⟨rfl, rfl⟩ ⟨Nat.le_of_ble_eq_true rfl, Nat.le_of_ble_eq_true rfl⟩ rfl rfl hl.1 (lv_room (Nat.le_of_ble_eq_true rfl)) d_Desk_await_122 (fun H locs hP hD hS => ?_)
                  refine lv_aload hx hb d_Desk_await_125 (lv_at hl 2 rfl) ?_
                  refine lv_iload_n hx hb d_Desk_await_127 rfl (lv_at hl 5 rfl) ?_
                  obtain ⟨r40, σ38, q39, hF⟩ := vB2_some hF
                  refine ed_cvI (As := [.int x2]) (rest := [.int r37, .ref (ad (pThr j31))]) B hP hD hS hA (C_Proc_objectOf l D ad ca j5 x2 σ35 r40 σ38 hj6 q39) me_Proc_objectOf mv_Proc_objectOf L_Desk_134 (ed_rc_Proc B hP hj6) ⟨rfl, rfl⟩ ⟨Nat.le_of_ble_eq_true rfl, Nat.le_of_ble_eq_true rfl⟩ rfl rfl hl.1 (lv_room (Nat.le_of_ble_eq_true rfl)) d_Desk_await_128 (fun H locs hP hD hS => ?_)
                  refine lv_aload hx hb d_Desk_await_131 (lv_at hl 2 rfl) ?_
                  refine lv_iload_n hx hb d_Desk_await_133 rfl (lv_at hl 6 rfl) ?_
                  obtain ⟨r43, σ41, q42, hF⟩ := vB2_some hF
                  refine ed_cvI (As := [.int x3]) (rest := [.int r40, .int r37, .ref (ad (pThr j31))]) B hP hD hS hA (C_Proc_objectOf l D ad ca j5 x3 σ38 r43 σ41 hj6 q42) me_Proc_objectOf mv_Proc_objectOf L_Desk_134 (ed_rc_Proc B hP hj6) ⟨rfl, rfl⟩ ⟨Nat.le_of_ble_eq_true rfl, Nat.le_of_ble_eq_true rfl⟩ rfl rfl hl.1 (lv_room (Nat.le_of_ble_eq_true rfl)) d_Desk_await_134 (fun H locs hP hD hS => ?_)
                  refine lv_iload hx hb d_Desk_await_137 (lv_at hl 7 rfl) ?_
                  obtain ⟨σ44, q45, hF⟩ := vB1_some hF
                  refine ed_cvV (As := [.int r37, .int r40, .int r43, .int x4]) (rest := []) B hP hD hS hA (C_Thr_wish l D ad ca j31 r37 r40 r43 x4 σ41 σ44 hj33 q45) me_Thr_wish mv_Thr_wish L_Desk_170 (ed_rc_Thr B hP hj33) ⟨rfl, rfl⟩ ⟨Nat.le_of_ble_eq_true rfl, Nat.le_of_ble_eq_true rfl⟩ rfl rfl hl.1 (lv_room (Nat.le_of_ble_eq_true rfl)) d_Desk_await_139 (fun H locs hP hD hS => ?_)
                  refine lv_aload hx hb d_Desk_await_142 (lv_at hl 0 rfl) ?_
                  refine gf_Thr_mayBeAlerted B hP hj33 L_Desk_174 d_Desk_await_144 ?_
                  refine lv_if_eq (tgt := 169) hx hb d_Desk_await_147 (by decide) (fun c46 => ?_) (fun c46 => ?_)
                  · have hF := vIt c46 hF
                    exact T_Desk_await_169 B hr hA  x1 x2 x3 x4 x5 j5 (σ27 5 0 0) j31 σ44 hj6 hj33 hF _ _ _ hP hD hS (lv_sub hl [3, 4, 5, 6, 7, 8, 2, 1, 0] rfl)
                  · have hF := vIf c46 hF
                    refine lv_aload hx hb d_Desk_await_150 (lv_at hl 0 rfl) ?_
                    refine gf_Thr_calls B hP hj33 L_Desk_178 d_Desk_await_152 ?_
                    refine gf_Row_size B hP (ed_b0 hj33) L_Desk_181 d_Desk_await_155 ?_
                    refine lv_if_le (tgt := 169) hx hb d_Desk_await_158 (by decide) (fun c47 => ?_) (fun c47 => ?_)
                    · have hF := vIt c47 hF
                      exact T_Desk_await_169 B hr hA  x1 x2 x3 x4 x5 j5 (σ27 5 0 0) j31 σ44 hj6 hj33 hF _ _ _ hP hD hS (lv_sub hl [3, 4, 5, 6, 7, 8, 2, 1, 0] rfl)
                    · have hF := vIf c47 hF
                      refine lv_aload hx hb d_Desk_await_161 (lv_at hl 0 rfl) ?_
                      obtain ⟨σ48, q49, hF⟩ := vB1_some hF
                      refine ed_cvV (As := []) (rest := []) B hP hD hS hA (C_Thr_deliverCalls l D ad ca j31 σ44 σ48 hj33 q49) me_Thr_deliverCalls mv_Thr_deliverCalls L_Desk_182 (ed_rc_Thr B hP hj33) ⟨rfl, rfl⟩ ⟨Nat.le_of_ble_eq_true rfl, Nat.le_of_ble_eq_true rfl⟩ rfl rfl hl.1 (lv_room (Nat.le_of_ble_eq_true rfl)) d_Desk_await_163 (fun H locs hP hD hS => ?_)
                      refine lv_bipush (v := (-12)) hx hb d_Desk_await_166 (by decide) ?_
                      exact ed_rI B hr hA hP hD hS (vP hF) d_Desk_await_168
                · have hF := vIf c30 hF
                  refine lv_bipush (v := (-5)) hx hb d_Desk_await_96 (by decide) ?_
                  exact ed_rI B hr hA hP hD hS (vP hF) d_Desk_await_98
          · have hF := vIt c18 hF
            refine lv_iconst (v := (-1)) hx hb d_Desk_await_64 (by decide) ?_
            exact ed_rI B hr hA hP hD hS (vP hF) d_Desk_await_65
    · have hF := vIt c2 hF
      refine lv_bipush (v := (-4)) hx hb d_Desk_await_22 (by decide) ?_
      exact ed_rI B hr hA hP hD hS (vP hF) d_Desk_await_24
  · have hF := vIt c1 hF
    refine lv_bipush (v := (-3)) hx hb d_Desk_await_11 (by decide) ?_
    exact ed_rI B hr hA hP hD hS (vP hF) d_Desk_await_13
set_option maxHeartbeats 4000000 in
set_option maxRecDepth 100000 in
theorem C_Desk_await (l : Launch) (D : va_G) (ad : Nat → Nat) (ca : Nat → ClassId) (x1 : Int32) (x2 : Int32) (x3 : Int32) (x4 : Int32) (x5 : Int32) (σ : ed_S) (r : Int32) (σ' : ed_S) (hF : F_Desk_await x1 x2 x3 x4 x5 σ = some (r, σ')) : ed_MI l y_Desk_await ws_Desk_await rm_Desk_await D ca (ed_w ad ca) [.ref (ad (pDesk 0)), .int x1, .int x2, .int x3, .int x4, .int x5] σ r σ' := by
  refine ed_metI (cc := prog_1_method_9_code) (own := "ExecutiveDesk") (nL := 10) (ret := (some .int)) (by decide) rfl rfl (Nat.le_of_ble_eq_true rfl) ?_
  intro p e s m args below meth c A B hr hA
  exact T_Desk_await B hr hA x1 x2 x3 x4 x5 σ  hF
abbrev ws_Desk_alertIfDue : List Cond := Cond.code y_Desk_alertIfDue prog_1_method_51_code 3 none :: ed_tb
abbrev rm_Desk_alertIfDue : Room := { frames := 3, cells := 0, slots := 0, locals := 64 }
def F_Desk_alertIfDue (x1 : Int32) (σ : ed_S) : Option ed_S := (vG x1 8 fun j1 => (if (σ 4 0 0) = 0 then (if (σ 10 j1 0) = 2 then (if (σ 16 j1 0) = 0 then (some σ) else (if (σ 18 j1 0) ≤ 0 then (some σ) else (vB1 (F_Desk_endWait x1 (-12) σ) fun σ9 => (vB1 (F_Thr_deliverCalls j1 σ9) fun σ11 => (some σ11))))) else (some σ)) else (some σ)))
set_option maxHeartbeats 4000000 in
set_option maxRecDepth 100000 in
theorem T_Desk_alertIfDue {σ' : ed_S} (B : ed_B p s m args meth c prog_1_method_51_code "ExecutiveDesk" 3 D ca) (hr : meth.sig.returnType = none) (hA : ∀ q : Nat, s.heap.size ≤ q → A q) : ∀ (x1 : Int32) (σ : ed_S), F_Desk_alertIfDue  x1 σ = some σ' → ed_G p l e rm_Desk_alertIfDue s m args below meth c D ca (ed_w ad ca) A (ed_QV D ca (ed_w ad ca) A below args s σ') 3 0 [(0, .ref (ad (pDesk 0))), (1, .int x1)] [] σ := by
  have hx := B.1
  have hb := B.2.1
  intro x1 σ  hF H locs ls hP hD hS hl
  have hF : (vG x1 8 fun j1 => (if (σ 4 0 0) = 0 then (if (σ 10 j1 0) = 2 then (if (σ 16 j1 0) = 0 then (some σ) else (if (σ 18 j1 0) ≤ 0 then (some σ) else (vB1 (F_Desk_endWait x1 (-12) σ) fun σ9 => (vB1 (F_Thr_deliverCalls j1 σ9) fun σ11 => (some σ11))))) else (some σ)) else (some σ))) = some σ' := hF
  refine lv_aload_n hx hb d_Desk_alertIfDue_0 rfl (lv_at hl 0 rfl) ?_
  refine gf_Desk_threads B hP (by decide) L_Desk_26 d_Desk_alertIfDue_1 ?_
  refine lv_iload_n hx hb d_Desk_alertIfDue_4 rfl (lv_at hl 1 rfl) ?_
  obtain ⟨j1, ej2, hj3, hn4, hF⟩ := vG_some hF
  refine al_AThr B hP (by decide) hn4 ej2 hj3 d_Desk_alertIfDue_5 ?_
  refine lv_astore_n (lv' := [(2, .ref (ad (pThr j1))), (0, .ref (ad (pDesk 0))), (1, .int x1)]) hx hb d_Desk_alertIfDue_6 rfl hl (by decide) rfl (fun ls hl => ?_)
  refine lv_aload_n hx hb d_Desk_alertIfDue_7 rfl (lv_at hl 1 rfl) ?_
  refine gf_Desk_currentLevel B hP (by decide) L_Desk_163 d_Desk_alertIfDue_8 ?_
  refine lv_if_ne (tgt := 50) hx hb d_Desk_alertIfDue_11 (by decide) (fun c5 => ?_) (fun c5 => ?_)
  · have hF := vIf c5 hF
    exact ed_rV B hr hA hP hD hS (Option.some.inj hF) d_Desk_alertIfDue_50
  · have hF := vIt c5 hF
    refine lv_aload_n hx hb d_Desk_alertIfDue_14 rfl (lv_at hl 0 rfl) ?_
    refine gf_Thr_state B hP hj3 L_Desk_192 d_Desk_alertIfDue_15 ?_
    refine lv_iconst (v := 2) hx hb d_Desk_alertIfDue_18 (by decide) ?_
    refine lv_icmp_ne (tgt := 50) hx hb d_Desk_alertIfDue_19 (by decide) (fun c6 => ?_) (fun c6 => ?_)
    · have hF := vIf c6 hF
      exact ed_rV B hr hA hP hD hS (Option.some.inj hF) d_Desk_alertIfDue_50
    · have hF := vIt c6 hF
      refine lv_aload_n hx hb d_Desk_alertIfDue_22 rfl (lv_at hl 0 rfl) ?_
      refine gf_Thr_mayBeAlerted B hP hj3 L_Desk_174 d_Desk_alertIfDue_23 ?_
      refine lv_if_eq (tgt := 50) hx hb d_Desk_alertIfDue_26 (by decide) (fun c7 => ?_) (fun c7 => ?_)
      · have hF := vIt c7 hF
        exact ed_rV B hr hA hP hD hS (Option.some.inj hF) d_Desk_alertIfDue_50
      · have hF := vIf c7 hF
        refine lv_aload_n hx hb d_Desk_alertIfDue_29 rfl (lv_at hl 0 rfl) ?_
        refine gf_Thr_calls B hP hj3 L_Desk_178 d_Desk_alertIfDue_30 ?_
        refine gf_Row_size B hP (ed_b0 hj3) L_Desk_181 d_Desk_alertIfDue_33 ?_
        refine lv_if_le (tgt := 50) hx hb d_Desk_alertIfDue_36 (by decide) (fun c8 => ?_) (fun c8 => ?_)
        · have hF := vIt c8 hF
          exact ed_rV B hr hA hP hD hS (Option.some.inj hF) d_Desk_alertIfDue_50
        · have hF := vIf c8 hF
          refine lv_aload_n hx hb d_Desk_alertIfDue_39 rfl (lv_at hl 1 rfl) ?_
          refine lv_iload_n hx hb d_Desk_alertIfDue_40 rfl (lv_at hl 2 rfl) ?_
          refine lv_bipush (v := (-12)) hx hb d_Desk_alertIfDue_41 (by decide) ?_
          obtain ⟨σ9, q10, hF⟩ := vB1_some hF
          refine ed_cvV (As := [.int x1, .int (-12)]) (rest := []) B hP hD hS hA (C_Desk_endWait l D ad ca x1 (-12) σ σ9  q10) me_Desk_endWait mv_Desk_endWait L_Desk_374 (ed_rc_Desk B hP (by decide)) ⟨rfl, rfl⟩ ⟨Nat.le_of_ble_eq_true rfl, Nat.le_of_ble_eq_true rfl⟩ rfl rfl hl.1 (lv_room (Nat.le_of_ble_eq_true rfl)) d_Desk_alertIfDue_43 (fun H locs hP hD hS => ?_)
          refine lv_aload_n hx hb d_Desk_alertIfDue_46 rfl (lv_at hl 0 rfl) ?_
          obtain ⟨σ11, q12, hF⟩ := vB1_some hF
          refine ed_cvV (As := []) (rest := []) B hP hD hS hA (C_Thr_deliverCalls l D ad ca j1 σ9 σ11 hj3 q12) me_Thr_deliverCalls mv_Thr_deliverCalls L_Desk_182 (ed_rc_Thr B hP hj3) ⟨rfl, rfl⟩ ⟨Nat.le_of_ble_eq_true rfl, Nat.le_of_ble_eq_true rfl⟩ rfl rfl hl.1 (lv_room (Nat.le_of_ble_eq_true rfl)) d_Desk_alertIfDue_47 (fun H locs hP hD hS => ?_)
          exact ed_rV B hr hA hP hD hS (Option.some.inj hF) d_Desk_alertIfDue_50
set_option maxHeartbeats 4000000 in
set_option maxRecDepth 100000 in
theorem C_Desk_alertIfDue (l : Launch) (D : va_G) (ad : Nat → Nat) (ca : Nat → ClassId) (x1 : Int32) (σ : ed_S) (σ' : ed_S) (hF : F_Desk_alertIfDue x1 σ = some σ') : ed_MV l y_Desk_alertIfDue ws_Desk_alertIfDue rm_Desk_alertIfDue D ca (ed_w ad ca) [.ref (ad (pDesk 0)), .int x1] σ σ' := by
  refine ed_metV (cc := prog_1_method_51_code) (own := "ExecutiveDesk") (nL := 3) (ret := none) (by decide) rfl rfl (Nat.le_of_ble_eq_true rfl) ?_
  intro p e s m args below meth c A B hr hA
  exact T_Desk_alertIfDue B hr hA x1 σ  hF
abbrev ws_Desk_call : List Cond := Cond.code y_Desk_call prog_1_method_10_code 4 (some .int) :: ed_tb
abbrev rm_Desk_call : Room := { frames := 4, cells := 0, slots := 0, locals := 86 }
def F_Desk_call (x1 : Int32) (x2 : Int32) (σ : ed_S) : Option (Int32 × ed_S) := (vB2 (F_Desk_isWithin x1 0 ((σ 1 0 0) - 1) σ) fun r3 σ1 => (if r3 = 0 then (some ((-1), σ1)) else (vG x1 8 fun j5 => (if (σ1 10 j5 0) = 3 then (some ((-1), σ1)) else (vB2 (F_Desk_isWithin x2 1 99 σ1) fun r12 σ10 => (if r12 = 0 then (some ((-1), σ10)) else (vG x1 8 fun j14 => (if (σ10 18 j14 0) = 4 then (some ((-2), σ10)) else (vB1 (F_Row_addLast j14 x2 σ10) fun σ19 => (vB1 (F_Desk_alertIfDue x1 σ19) fun σ21 => (vB1 (F_Desk_lookWhoRuns  σ21) fun σ23 => (some ((σ23 18 j14 0), σ23)))))))))))))
set_option maxHeartbeats 4000000 in
set_option maxRecDepth 100000 in
theorem T_Desk_call {r : Int32} {σ' : ed_S} (B : ed_B p s m args meth c prog_1_method_10_code "ExecutiveDesk" 4 D ca) (hr : meth.sig.returnType = (some .int)) (hA : ∀ q : Nat, s.heap.size ≤ q → A q) : ∀ (x1 : Int32) (x2 : Int32) (σ : ed_S), F_Desk_call  x1 x2 σ = some (r, σ') → ed_G p l e rm_Desk_call s m args below meth c D ca (ed_w ad ca) A (ed_QI D ca (ed_w ad ca) A below args s r σ') 4 0 [(0, .ref (ad (pDesk 0))), (1, .int x1), (2, .int x2)] [] σ := by
  have hx := B.1
  have hb := B.2.1
  intro x1 x2 σ  hF H locs ls hP hD hS hl
  have hF : (vB2 (F_Desk_isWithin x1 0 ((σ 1 0 0) - 1) σ) fun r3 σ1 => (if r3 = 0 then (some ((-1), σ1)) else (vG x1 8 fun j5 => (if (σ1 10 j5 0) = 3 then (some ((-1), σ1)) else (vB2 (F_Desk_isWithin x2 1 99 σ1) fun r12 σ10 => (if r12 = 0 then (some ((-1), σ10)) else (vG x1 8 fun j14 => (if (σ10 18 j14 0) = 4 then (some ((-2), σ10)) else (vB1 (F_Row_addLast j14 x2 σ10) fun σ19 => (vB1 (F_Desk_alertIfDue x1 σ19) fun σ21 => (vB1 (F_Desk_lookWhoRuns  σ21) fun σ23 => (some ((σ23 18 j14 0), σ23))))))))))))) = some (r, σ') := hF
  refine lv_iload_n hx hb d_Desk_call_0 rfl (lv_at hl 1 rfl) ?_
  refine lv_iconst (v := 0) hx hb d_Desk_call_1 (by decide) ?_
  refine lv_aload_n hx hb d_Desk_call_2 rfl (lv_at hl 0 rfl) ?_
  refine gf_Desk_threadCount B hP (by decide) L_Desk_69 d_Desk_call_3 ?_
  refine lv_iconst (v := 1) hx hb d_Desk_call_6 (by decide) ?_
  refine lv_isub hx hb d_Desk_call_7 ?_
  obtain ⟨r3, σ1, q2, hF⟩ := vB2_some hF
  refine ed_csI (As := [.int x1, .int 0, .int ((σ 1 0 0) - 1)]) (rest := []) B hP hD hS hA (C_Desk_isWithin l D ad ca x1 0 ((σ 1 0 0) - 1) σ r3 σ1  q2) me_Desk_isWithin st_Desk_isWithin L_Desk_54 ⟨rfl, rfl⟩ ⟨Nat.le_of_ble_eq_true rfl, Nat.le_of_ble_eq_true rfl⟩ rfl rfl hl.1 (lv_room (Nat.le_of_ble_eq_true rfl)) d_Desk_call_8 (fun H locs hP hD hS => ?_)
  refine lv_if_eq (tgt := 37) hx hb d_Desk_call_11 (by decide) (fun c4 => ?_) (fun c4 => ?_)
  · have hF := vIt c4 hF
    refine lv_iconst (v := (-1)) hx hb d_Desk_call_37 (by decide) ?_
    exact ed_rI B hr hA hP hD hS (vP hF) d_Desk_call_38
  · have hF := vIf c4 hF
    refine lv_aload_n hx hb d_Desk_call_14 rfl (lv_at hl 0 rfl) ?_
    refine gf_Desk_threads B hP (by decide) L_Desk_26 d_Desk_call_15 ?_
    refine lv_iload_n hx hb d_Desk_call_18 rfl (lv_at hl 1 rfl) ?_
    obtain ⟨j5, ej6, hj7, hn8, hF⟩ := vG_some hF
    refine al_AThr B hP (by decide) hn8 ej6 hj7 d_Desk_call_19 ?_
    refine gf_Thr_state B hP hj7 L_Desk_192 d_Desk_call_20 ?_
    refine lv_iconst (v := 3) hx hb d_Desk_call_23 (by decide) ?_
    refine lv_icmp_eq (tgt := 37) hx hb d_Desk_call_24 (by decide) (fun c9 => ?_) (fun c9 => ?_)
    · have hF := vIt c9 hF
      refine lv_iconst (v := (-1)) hx hb d_Desk_call_37 (by decide) ?_
      exact ed_rI B hr hA hP hD hS (vP hF) d_Desk_call_38
    · have hF := vIf c9 hF
      refine lv_iload_n hx hb d_Desk_call_27 rfl (lv_at hl 2 rfl) ?_
      refine lv_iconst (v := 1) hx hb d_Desk_call_28 (by decide) ?_
      refine lv_bipush (v := 99) hx hb d_Desk_call_29 (by decide) ?_
      obtain ⟨r12, σ10, q11, hF⟩ := vB2_some hF
      refine ed_csI (As := [.int x2, .int 1, .int 99]) (rest := []) B hP hD hS hA (C_Desk_isWithin l D ad ca x2 1 99 σ1 r12 σ10  q11) me_Desk_isWithin st_Desk_isWithin L_Desk_54 ⟨rfl, rfl⟩ ⟨Nat.le_of_ble_eq_true rfl, Nat.le_of_ble_eq_true rfl⟩ rfl rfl hl.1 (lv_room (Nat.le_of_ble_eq_true rfl)) d_Desk_call_31 (fun H locs hP hD hS => ?_)
      refine lv_if_ne (tgt := 39) hx hb d_Desk_call_34 (by decide) (fun c13 => ?_) (fun c13 => ?_)
      · have hF := vIf c13 hF
        refine lv_aload_n hx hb d_Desk_call_39 rfl (lv_at hl 0 rfl) ?_
        refine gf_Desk_threads B hP (by decide) L_Desk_26 d_Desk_call_40 ?_
        refine lv_iload_n hx hb d_Desk_call_43 rfl (lv_at hl 1 rfl) ?_
        obtain ⟨j14, ej15, hj16, hn17, hF⟩ := vG_some hF
        refine al_AThr B hP (by decide) hn17 ej15 hj16 d_Desk_call_44 ?_
        refine lv_astore_n (lv' := [(3, .ref (ad (pThr j14))), (0, .ref (ad (pDesk 0))), (1, .int x1), (2, .int x2)]) hx hb d_Desk_call_45 rfl hl (by decide) rfl (fun ls hl => ?_)
        refine lv_aload_n hx hb d_Desk_call_46 rfl (lv_at hl 0 rfl) ?_
        refine gf_Thr_calls B hP hj16 L_Desk_178 d_Desk_call_47 ?_
        refine gf_Row_size B hP (ed_b0 hj16) L_Desk_181 d_Desk_call_50 ?_
        refine lv_iconst (v := 4) hx hb d_Desk_call_53 (by decide) ?_
        refine lv_icmp_ne (tgt := 60) hx hb d_Desk_call_54 (by decide) (fun c18 => ?_) (fun c18 => ?_)
        · have hF := vIf c18 hF
          refine lv_aload_n hx hb d_Desk_call_60 rfl (lv_at hl 0 rfl) ?_
          refine gf_Thr_calls B hP hj16 L_Desk_178 d_Desk_call_61 ?_
          refine lv_iload_n hx hb d_Desk_call_64 rfl (lv_at hl 3 rfl) ?_
          obtain ⟨σ19, q20, hF⟩ := vB1_some hF
          refine ed_cvV (As := [.int x2]) (rest := []) B hP hD hS hA (C_Row_addLast l D ad ca j14 x2 σ10 σ19 (ed_b0 hj16) q20) me_Row_addLast mv_Row_addLast L_Desk_195 (ed_rc_Row B hP (ed_b0 hj16)) ⟨rfl, rfl⟩ ⟨Nat.le_of_ble_eq_true rfl, Nat.le_of_ble_eq_true rfl⟩ rfl rfl hl.1 (lv_room (Nat.le_of_ble_eq_true rfl)) d_Desk_call_65 (fun H locs hP hD hS => ?_)
          refine lv_aload_n hx hb d_Desk_call_68 rfl (lv_at hl 1 rfl) ?_
          refine lv_iload_n hx hb d_Desk_call_69 rfl (lv_at hl 2 rfl) ?_
          obtain ⟨σ21, q22, hF⟩ := vB1_some hF
          refine ed_cvV (As := [.int x1]) (rest := []) B hP hD hS hA (C_Desk_alertIfDue l D ad ca x1 σ19 σ21  q22) me_Desk_alertIfDue mv_Desk_alertIfDue L_Desk_198 (ed_rc_Desk B hP (by decide)) ⟨rfl, rfl⟩ ⟨Nat.le_of_ble_eq_true rfl, Nat.le_of_ble_eq_true rfl⟩ rfl rfl hl.1 (lv_room (Nat.le_of_ble_eq_true rfl)) d_Desk_call_70 (fun H locs hP hD hS => ?_)
          refine lv_aload_n hx hb d_Desk_call_73 rfl (lv_at hl 1 rfl) ?_
          obtain ⟨σ23, q24, hF⟩ := vB1_some hF
          refine ed_cvV (As := []) (rest := []) B hP hD hS hA (C_Desk_lookWhoRuns l D ad ca  σ21 σ23  q24) me_Desk_lookWhoRuns mv_Desk_lookWhoRuns L_Desk_89 (ed_rc_Desk B hP (by decide)) ⟨rfl, rfl⟩ ⟨Nat.le_of_ble_eq_true rfl, Nat.le_of_ble_eq_true rfl⟩ rfl rfl hl.1 (lv_room (Nat.le_of_ble_eq_true rfl)) d_Desk_call_74 (fun H locs hP hD hS => ?_)
          refine lv_aload_n hx hb d_Desk_call_77 rfl (lv_at hl 0 rfl) ?_
          refine gf_Thr_calls B hP hj16 L_Desk_178 d_Desk_call_78 ?_
          refine gf_Row_size B hP (ed_b0 hj16) L_Desk_181 d_Desk_call_81 ?_
          exact ed_rI B hr hA hP hD hS (vP hF) d_Desk_call_84
        · have hF := vIt c18 hF
          refine lv_bipush (v := (-2)) hx hb d_Desk_call_57 (by decide) ?_
          exact ed_rI B hr hA hP hD hS (vP hF) d_Desk_call_59
      · have hF := vIt c13 hF
        refine lv_iconst (v := (-1)) hx hb d_Desk_call_37 (by decide) ?_
        exact ed_rI B hr hA hP hD hS (vP hF) d_Desk_call_38
set_option maxHeartbeats 4000000 in
set_option maxRecDepth 100000 in
theorem C_Desk_call (l : Launch) (D : va_G) (ad : Nat → Nat) (ca : Nat → ClassId) (x1 : Int32) (x2 : Int32) (σ : ed_S) (r : Int32) (σ' : ed_S) (hF : F_Desk_call x1 x2 σ = some (r, σ')) : ed_MI l y_Desk_call ws_Desk_call rm_Desk_call D ca (ed_w ad ca) [.ref (ad (pDesk 0)), .int x1, .int x2] σ r σ' := by
  refine ed_metI (cc := prog_1_method_10_code) (own := "ExecutiveDesk") (nL := 4) (ret := (some .int)) (by decide) rfl rfl (Nat.le_of_ble_eq_true rfl) ?_
  intro p e s m args below meth c A B hr hA
  exact T_Desk_call B hr hA x1 x2 σ  hF
abbrev ws_Desk_pointToObjectsOf : List Cond := Cond.code y_Desk_pointToObjectsOf prog_1_method_56_code 3 none :: ed_tb
abbrev rm_Desk_pointToObjectsOf : Room := { frames := 0, cells := 0, slots := 0, locals := 0 }
def F_Desk_pointToObjectsOf (i1 : Nat) (x2 : Int32) (σ : ed_S) : Option ed_S := (vG (σ 34 i1 0) 16 fun j1 => (vL (ed_st σ 25 j1 0 ((σ 25 j1 0) + x2)) fun σ5 => (if (σ5 36 i1 0) = (-1) then (some σ5) else (vG (σ5 36 i1 0) 16 fun j8 => (vL (ed_st σ5 25 j8 0 ((σ5 25 j8 0) + x2)) fun σ12 => (some σ12))))))
set_option maxHeartbeats 4000000 in
set_option maxRecDepth 100000 in
theorem T_Desk_pointToObjectsOf {σ' : ed_S} (B : ed_B p s m args meth c prog_1_method_56_code "ExecutiveDesk" 3 D ca) (hr : meth.sig.returnType = none) (hA : ∀ q : Nat, s.heap.size ≤ q → A q) : ∀ (i1 : Nat) (x2 : Int32) (σ : ed_S), i1 < 8 → F_Desk_pointToObjectsOf  i1 x2 σ = some σ' → ed_G p l e rm_Desk_pointToObjectsOf s m args below meth c D ca (ed_w ad ca) A (ed_QV D ca (ed_w ad ca) A below args s σ') 3 0 [(0, .ref (ad (pDesk 0))), (1, .ref (ad (pTra i1))), (2, .int x2)] [] σ := by
  have hx := B.1
  have hb := B.2.1
  intro i1 x2 σ h1 hF H locs ls hP hD hS hl
  have hF : (vG (σ 34 i1 0) 16 fun j1 => (vL (ed_st σ 25 j1 0 ((σ 25 j1 0) + x2)) fun σ5 => (if (σ5 36 i1 0) = (-1) then (some σ5) else (vG (σ5 36 i1 0) 16 fun j8 => (vL (ed_st σ5 25 j8 0 ((σ5 25 j8 0) + x2)) fun σ12 => (some σ12)))))) = some σ' := hF
  refine lv_aload_n hx hb d_Desk_pointToObjectsOf_0 rfl (lv_at hl 0 rfl) ?_
  refine gf_Desk_objects B hP (by decide) L_Desk_29 d_Desk_pointToObjectsOf_1 ?_
  refine lv_aload_n hx hb d_Desk_pointToObjectsOf_4 rfl (lv_at hl 1 rfl) ?_
  refine gf_Tra_device B hP h1 L_Desk_289 d_Desk_pointToObjectsOf_5 ?_
  obtain ⟨j1, ej2, hj3, hn4, hF⟩ := vG_some hF
  refine al_AObj B hP (by decide) hn4 ej2 hj3 d_Desk_pointToObjectsOf_8 ?_
  refine lv_dup hx hb d_Desk_pointToObjectsOf_9 rfl ?_
  refine gf_Obj_pointers B hP hj3 L_Desk_204 d_Desk_pointToObjectsOf_10 ?_
  refine lv_iload_n hx hb d_Desk_pointToObjectsOf_13 rfl (lv_at hl 2 rfl) ?_
  refine lv_iadd hx hb d_Desk_pointToObjectsOf_14 ?_
  obtain ⟨σ5, e6, hF⟩ := vL_some hF
  refine pf_Obj_pointers B hP hD hS hj3 e6 L_Desk_204 d_Desk_pointToObjectsOf_15 (fun H locs hP hD hS => ?_)
  refine lv_aload_n hx hb d_Desk_pointToObjectsOf_18 rfl (lv_at hl 1 rfl) ?_
  refine gf_Tra_target B hP h1 L_Desk_390 d_Desk_pointToObjectsOf_19 ?_
  refine lv_iconst (v := (-1)) hx hb d_Desk_pointToObjectsOf_22 (by decide) ?_
  refine lv_icmp_eq (tgt := 44) hx hb d_Desk_pointToObjectsOf_23 (by decide) (fun c7 => ?_) (fun c7 => ?_)
  · have hF := vIt c7 hF
    exact ed_rV B hr hA hP hD hS (Option.some.inj hF) d_Desk_pointToObjectsOf_44
  · have hF := vIf c7 hF
    refine lv_aload_n hx hb d_Desk_pointToObjectsOf_26 rfl (lv_at hl 0 rfl) ?_
    refine gf_Desk_objects B hP (by decide) L_Desk_29 d_Desk_pointToObjectsOf_27 ?_
    refine lv_aload_n hx hb d_Desk_pointToObjectsOf_30 rfl (lv_at hl 1 rfl) ?_
    refine gf_Tra_target B hP h1 L_Desk_390 d_Desk_pointToObjectsOf_31 ?_
    obtain ⟨j8, ej9, hj10, hn11, hF⟩ := vG_some hF
    refine al_AObj B hP (by decide) hn11 ej9 hj10 d_Desk_pointToObjectsOf_34 ?_
    refine lv_dup hx hb d_Desk_pointToObjectsOf_35 rfl ?_
    refine gf_Obj_pointers B hP hj10 L_Desk_204 d_Desk_pointToObjectsOf_36 ?_
    refine lv_iload_n hx hb d_Desk_pointToObjectsOf_39 rfl (lv_at hl 2 rfl) ?_
    refine lv_iadd hx hb d_Desk_pointToObjectsOf_40 ?_
    obtain ⟨σ12, e13, hF⟩ := vL_some hF
    refine pf_Obj_pointers B hP hD hS hj10 e13 L_Desk_204 d_Desk_pointToObjectsOf_41 (fun H locs hP hD hS => ?_)
    exact ed_rV B hr hA hP hD hS (Option.some.inj hF) d_Desk_pointToObjectsOf_44
set_option maxHeartbeats 4000000 in
set_option maxRecDepth 100000 in
theorem C_Desk_pointToObjectsOf (l : Launch) (D : va_G) (ad : Nat → Nat) (ca : Nat → ClassId) (i1 : Nat) (x2 : Int32) (σ : ed_S) (σ' : ed_S) (h1 : i1 < 8) (hF : F_Desk_pointToObjectsOf i1 x2 σ = some σ') : ed_MV l y_Desk_pointToObjectsOf ws_Desk_pointToObjectsOf rm_Desk_pointToObjectsOf D ca (ed_w ad ca) [.ref (ad (pDesk 0)), .ref (ad (pTra i1)), .int x2] σ σ' := by
  refine ed_metV (cc := prog_1_method_56_code) (own := "ExecutiveDesk") (nL := 3) (ret := none) (by decide) rfl rfl (Nat.le_of_ble_eq_true rfl) ?_
  intro p e s m args below meth c A B hr hA
  exact T_Desk_pointToObjectsOf B hr hA i1 x2 σ h1 hF
abbrev ws_Desk_conclude : List Cond := Cond.code y_Desk_conclude prog_1_method_55_code 4 none :: ed_tb
abbrev rm_Desk_conclude : Room := { frames := 4, cells := 0, slots := 0, locals := 91 }
def F_Desk_conclude (i1 : Nat) (x2 : Int32) (x3 : Int32) (σ : ed_S) : Option ed_S := (vL (ed_st σ 31 i1 0 x2) fun σ1 => (vL (ed_st σ1 32 i1 0 x3) fun σ3 => (vL (ed_st σ3 2 0 0 ((σ3 2 0 0) + 1)) fun σ5 => (vB1 (F_Desk_pointToObjectsOf i1 (-1) σ5) fun σ7 => (if (σ7 36 i1 0) = (-1) then (some σ7) else (vG (σ7 36 i1 0) 16 fun j10 => (vL (ed_st σ7 26 j10 0 1) fun σ14 => (vB1 (F_Desk_release  σ14) fun σ16 => (some σ16)))))))))
set_option maxHeartbeats 4000000 in
set_option maxRecDepth 100000 in
theorem T_Desk_conclude {σ' : ed_S} (B : ed_B p s m args meth c prog_1_method_55_code "ExecutiveDesk" 4 D ca) (hr : meth.sig.returnType = none) (hA : ∀ q : Nat, s.heap.size ≤ q → A q) : ∀ (i1 : Nat) (x2 : Int32) (x3 : Int32) (σ : ed_S), i1 < 8 → F_Desk_conclude  i1 x2 x3 σ = some σ' → ed_G p l e rm_Desk_conclude s m args below meth c D ca (ed_w ad ca) A (ed_QV D ca (ed_w ad ca) A below args s σ') 4 0 [(0, .ref (ad (pDesk 0))), (1, .ref (ad (pTra i1))), (2, .int x2), (3, .int x3)] [] σ := by
  have hx := B.1
  have hb := B.2.1
  intro i1 x2 x3 σ h1 hF H locs ls hP hD hS hl
  have hF : (vL (ed_st σ 31 i1 0 x2) fun σ1 => (vL (ed_st σ1 32 i1 0 x3) fun σ3 => (vL (ed_st σ3 2 0 0 ((σ3 2 0 0) + 1)) fun σ5 => (vB1 (F_Desk_pointToObjectsOf i1 (-1) σ5) fun σ7 => (if (σ7 36 i1 0) = (-1) then (some σ7) else (vG (σ7 36 i1 0) 16 fun j10 => (vL (ed_st σ7 26 j10 0 1) fun σ14 => (vB1 (F_Desk_release  σ14) fun σ16 => (some σ16))))))))) = some σ' := hF
  refine lv_aload_n hx hb d_Desk_conclude_0 rfl (lv_at hl 1 rfl) ?_
  refine lv_iload_n hx hb d_Desk_conclude_1 rfl (lv_at hl 2 rfl) ?_
  obtain ⟨σ1, e2, hF⟩ := vL_some hF
  refine pf_Tra_status B hP hD hS h1 e2 L_Desk_283 d_Desk_conclude_2 (fun H locs hP hD hS => ?_)
  refine lv_aload_n hx hb d_Desk_conclude_5 rfl (lv_at hl 1 rfl) ?_
  refine lv_iload_n hx hb d_Desk_conclude_6 rfl (lv_at hl 3 rfl) ?_
  obtain ⟨σ3, e4, hF⟩ := vL_some hF
  refine pf_Tra_amount B hP hD hS h1 e4 L_Desk_286 d_Desk_conclude_7 (fun H locs hP hD hS => ?_)
  refine lv_aload_n hx hb d_Desk_conclude_10 rfl (lv_at hl 0 rfl) ?_
  refine lv_dup hx hb d_Desk_conclude_11 rfl ?_
  refine gf_Desk_overCount B hP (by decide) L_Desk_310 d_Desk_conclude_12 ?_
  refine lv_iconst (v := 1) hx hb d_Desk_conclude_15 (by decide) ?_
  refine lv_iadd hx hb d_Desk_conclude_16 ?_
  obtain ⟨σ5, e6, hF⟩ := vL_some hF
  refine pf_Desk_overCount B hP hD hS (by decide) e6 L_Desk_310 d_Desk_conclude_17 (fun H locs hP hD hS => ?_)
  refine lv_aload_n hx hb d_Desk_conclude_20 rfl (lv_at hl 0 rfl) ?_
  refine lv_aload_n hx hb d_Desk_conclude_21 rfl (lv_at hl 1 rfl) ?_
  refine lv_iconst (v := (-1)) hx hb d_Desk_conclude_22 (by decide) ?_
  obtain ⟨σ7, q8, hF⟩ := vB1_some hF
  refine ed_cvV (As := [.ref (ad (pTra i1)), .int (-1)]) (rest := []) B hP hD hS hA (C_Desk_pointToObjectsOf l D ad ca i1 (-1) σ5 σ7 h1 q8) me_Desk_pointToObjectsOf mv_Desk_pointToObjectsOf L_Desk_223 (ed_rc_Desk B hP (by decide)) ⟨rfl, rfl⟩ ⟨Nat.le_of_ble_eq_true rfl, Nat.le_of_ble_eq_true rfl⟩ rfl rfl hl.1 (lv_room (Nat.le_of_ble_eq_true rfl)) d_Desk_conclude_23 (fun H locs hP hD hS => ?_)
  refine lv_aload_n hx hb d_Desk_conclude_26 rfl (lv_at hl 1 rfl) ?_
  refine gf_Tra_target B hP h1 L_Desk_390 d_Desk_conclude_27 ?_
  refine lv_iconst (v := (-1)) hx hb d_Desk_conclude_30 (by decide) ?_
  refine lv_icmp_eq (tgt := 51) hx hb d_Desk_conclude_31 (by decide) (fun c9 => ?_) (fun c9 => ?_)
  · have hF := vIt c9 hF
    exact ed_rV B hr hA hP hD hS (Option.some.inj hF) d_Desk_conclude_51
  · have hF := vIf c9 hF
    refine lv_aload_n hx hb d_Desk_conclude_34 rfl (lv_at hl 0 rfl) ?_
    refine gf_Desk_objects B hP (by decide) L_Desk_29 d_Desk_conclude_35 ?_
    refine lv_aload_n hx hb d_Desk_conclude_38 rfl (lv_at hl 1 rfl) ?_
    refine gf_Tra_target B hP h1 L_Desk_390 d_Desk_conclude_39 ?_
    obtain ⟨j10, ej11, hj12, hn13, hF⟩ := vG_some hF
    refine al_AObj B hP (by decide) hn13 ej11 hj12 d_Desk_conclude_42 ?_
    refine lv_iconst (v := 1) hx hb d_Desk_conclude_43 (by decide) ?_
    obtain ⟨σ14, e15, hF⟩ := vL_some hF
    refine pf_Obj_value B hP hD hS hj12 e15 L_Desk_273 d_Desk_conclude_44 (fun H locs hP hD hS => ?_)
    refine lv_aload_n hx hb d_Desk_conclude_47 rfl (lv_at hl 0 rfl) ?_
    obtain ⟨σ16, q17, hF⟩ := vB1_some hF
    refine ed_cvV (As := []) (rest := []) B hP hD hS hA (C_Desk_release l D ad ca  σ14 σ16  q17) me_Desk_release mv_Desk_release L_Desk_343 (ed_rc_Desk B hP (by decide)) ⟨rfl, rfl⟩ ⟨Nat.le_of_ble_eq_true rfl, Nat.le_of_ble_eq_true rfl⟩ rfl rfl hl.1 (lv_room (Nat.le_of_ble_eq_true rfl)) d_Desk_conclude_48 (fun H locs hP hD hS => ?_)
    exact ed_rV B hr hA hP hD hS (Option.some.inj hF) d_Desk_conclude_51
set_option maxHeartbeats 4000000 in
set_option maxRecDepth 100000 in
theorem C_Desk_conclude (l : Launch) (D : va_G) (ad : Nat → Nat) (ca : Nat → ClassId) (i1 : Nat) (x2 : Int32) (x3 : Int32) (σ : ed_S) (σ' : ed_S) (h1 : i1 < 8) (hF : F_Desk_conclude i1 x2 x3 σ = some σ') : ed_MV l y_Desk_conclude ws_Desk_conclude rm_Desk_conclude D ca (ed_w ad ca) [.ref (ad (pDesk 0)), .ref (ad (pTra i1)), .int x2, .int x3] σ σ' := by
  refine ed_metV (cc := prog_1_method_55_code) (own := "ExecutiveDesk") (nL := 4) (ret := none) (by decide) rfl rfl (Nat.le_of_ble_eq_true rfl) ?_
  intro p e s m args below meth c A B hr hA
  exact T_Desk_conclude B hr hA i1 x2 x3 σ h1 hF
abbrev ws_Obj_hasLayer : List Cond := Cond.code y_Obj_hasLayer prog_2_method_5_code 2 (some .boolean) :: ed_tb
abbrev rm_Obj_hasLayer : Room := { frames := 0, cells := 0, slots := 0, locals := 0 }
def F_Obj_hasLayer (i0 : Nat) (x1 : Int32) (σ : ed_S) : Option (Int32 × ed_S) := (if ((σ 26 i0 0) &&& x1) = 0 then (some (0, σ)) else (some (1, σ)))
set_option maxHeartbeats 4000000 in
set_option maxRecDepth 100000 in
theorem T_Obj_hasLayer {r : Int32} {σ' : ed_S} (B : ed_B p s m args meth c prog_2_method_5_code "ExecutiveDesk$ObjectState" 2 D ca) (hr : meth.sig.returnType = (some .boolean)) (hA : ∀ q : Nat, s.heap.size ≤ q → A q) : ∀ (i0 : Nat) (x1 : Int32) (σ : ed_S), i0 < 16 → F_Obj_hasLayer  i0 x1 σ = some (r, σ') → ed_G p l e rm_Obj_hasLayer s m args below meth c D ca (ed_w ad ca) A (ed_QI D ca (ed_w ad ca) A below args s r σ') 2 0 [(0, .ref (ad (pObj i0))), (1, .int x1)] [] σ := by
  have hx := B.1
  have hb := B.2.1
  intro i0 x1 σ h0 hF H locs ls hP hD hS hl
  have hF : (if ((σ 26 i0 0) &&& x1) = 0 then (some (0, σ)) else (some (1, σ))) = some (r, σ') := hF
  refine lv_aload_n hx hb d_Obj_hasLayer_0 rfl (lv_at hl 0 rfl) ?_
  refine gf_Obj_value B hP h0 L_Obj_40 d_Obj_hasLayer_1 ?_
  refine lv_iload_n hx hb d_Obj_hasLayer_4 rfl (lv_at hl 1 rfl) ?_
  refine lv_iand hx hb d_Obj_hasLayer_5 ?_
  refine lv_if_eq (tgt := 13) hx hb d_Obj_hasLayer_6 (by decide) (fun c1 => ?_) (fun c1 => ?_)
  · have hF := vIt c1 hF
    refine lv_iconst (v := 0) hx hb d_Obj_hasLayer_13 (by decide) ?_
    exact ed_rZ B hr hA hP hD hS (by decide) (vP hF) d_Obj_hasLayer_14
  · have hF := vIf c1 hF
    refine lv_iconst (v := 1) hx hb d_Obj_hasLayer_9 (by decide) ?_
    refine lv_goto (tgt := 14) hx hb d_Obj_hasLayer_10 (by decide) ?_
    exact ed_rZ B hr hA hP hD hS (by decide) (vP hF) d_Obj_hasLayer_14
set_option maxHeartbeats 4000000 in
set_option maxRecDepth 100000 in
theorem C_Obj_hasLayer (l : Launch) (D : va_G) (ad : Nat → Nat) (ca : Nat → ClassId) (i0 : Nat) (x1 : Int32) (σ : ed_S) (r : Int32) (σ' : ed_S) (h0 : i0 < 16) (hF : F_Obj_hasLayer i0 x1 σ = some (r, σ')) : ed_MI l y_Obj_hasLayer ws_Obj_hasLayer rm_Obj_hasLayer D ca (ed_w ad ca) [.ref (ad (pObj i0)), .int x1] σ r σ' := by
  refine ed_metI (cc := prog_2_method_5_code) (own := "ExecutiveDesk$ObjectState") (nL := 2) (ret := (some .boolean)) (by decide) rfl rfl (Nat.le_of_ble_eq_true rfl) ?_
  intro p e s m args below meth c A B hr hA
  exact T_Obj_hasLayer B hr hA i0 x1 σ h0 hF
abbrev ws_Desk_finishFirst : List Cond := Cond.code y_Desk_finishFirst prog_1_method_52_code 5 none :: ed_tb
abbrev rm_Desk_finishFirst : Room := { frames := 5, cells := 0, slots := 0, locals := 114 }
def F_Desk_finishFirst (i1 : Nat) (x2 : Int32) (σ : ed_S) : Option ed_S := (vB2 (F_Row_removeFirst (16 + i1) σ) fun r3 σ1 => (if r3 = (-1) then (some σ1) else (vG r3 8 fun j5 => (if (σ1 37 j5 0) = 0 then (if x2 = 0 then (vB2 (F_Obj_hasLayer i1 1 σ1) fun r13 σ11 => (if r13 = 0 then (vB1 (F_Desk_conclude j5 4 0 σ11) fun σ15 => (some σ15)) else (vB2 (F_Obj_hasLayer i1 4 σ11) fun r19 σ17 => (if r19 = 0 then (vB1 (F_Desk_conclude j5 4 0 σ17) fun σ21 => (some σ21)) else (if (σ17 38 j5 0) = 0 then (vL (ed_st σ17 38 j5 0 1) fun σ26 => (vB1 (F_Row_addLast (16 + i1) r3 σ26) fun σ28 => (some σ28))) else (vB1 (F_Desk_conclude j5 4 0 σ17) fun σ24 => (some σ24))))))) else (vB1 (F_Desk_conclude j5 1 (σ1 35 j5 0) σ1) fun σ30 => (some σ30))) else (vB1 (F_Desk_conclude j5 5 0 σ1) fun σ32 => (some σ32))))))
set_option maxHeartbeats 4000000 in
set_option maxRecDepth 100000 in
theorem T_Desk_finishFirst {σ' : ed_S} (B : ed_B p s m args meth c prog_1_method_52_code "ExecutiveDesk" 5 D ca) (hr : meth.sig.returnType = none) (hA : ∀ q : Nat, s.heap.size ≤ q → A q) : ∀ (i1 : Nat) (x2 : Int32) (σ : ed_S), i1 < 16 → F_Desk_finishFirst  i1 x2 σ = some σ' → ed_G p l e rm_Desk_finishFirst s m args below meth c D ca (ed_w ad ca) A (ed_QV D ca (ed_w ad ca) A below args s σ') 5 0 [(0, .ref (ad (pDesk 0))), (1, .ref (ad (pObj i1))), (2, .int x2)] [] σ := by
  have hx := B.1
  have hb := B.2.1
  intro i1 x2 σ h1 hF H locs ls hP hD hS hl
  have hF : (vB2 (F_Row_removeFirst (16 + i1) σ) fun r3 σ1 => (if r3 = (-1) then (some σ1) else (vG r3 8 fun j5 => (if (σ1 37 j5 0) = 0 then (if x2 = 0 then (vB2 (F_Obj_hasLayer i1 1 σ1) fun r13 σ11 => (if r13 = 0 then (vB1 (F_Desk_conclude j5 4 0 σ11) fun σ15 => (some σ15)) else (vB2 (F_Obj_hasLayer i1 4 σ11) fun r19 σ17 => (if r19 = 0 then (vB1 (F_Desk_conclude j5 4 0 σ17) fun σ21 => (some σ21)) else (if (σ17 38 j5 0) = 0 then (vL (ed_st σ17 38 j5 0 1) fun σ26 => (vB1 (F_Row_addLast (16 + i1) r3 σ26) fun σ28 => (some σ28))) else (vB1 (F_Desk_conclude j5 4 0 σ17) fun σ24 => (some σ24))))))) else (vB1 (F_Desk_conclude j5 1 (σ1 35 j5 0) σ1) fun σ30 => (some σ30))) else (vB1 (F_Desk_conclude j5 5 0 σ1) fun σ32 => (some σ32)))))) = some σ' := hF
  refine lv_aload_n hx hb d_Desk_finishFirst_0 rfl (lv_at hl 1 rfl) ?_
  refine gf_Obj_row B hP h1 L_Desk_270 d_Desk_finishFirst_1 ?_
  obtain ⟨r3, σ1, q2, hF⟩ := vB2_some hF
  refine ed_cvI (As := []) (rest := []) B hP hD hS hA (C_Row_removeFirst l D ad ca (16 + i1) σ r3 σ1 (ed_b16 h1) q2) me_Row_removeFirst mv_Row_removeFirst L_Desk_201 (ed_rc_Row B hP (ed_b16 h1)) ⟨rfl, rfl⟩ ⟨Nat.le_of_ble_eq_true rfl, Nat.le_of_ble_eq_true rfl⟩ rfl rfl hl.1 (lv_room (Nat.le_of_ble_eq_true rfl)) d_Desk_finishFirst_4 (fun H locs hP hD hS => ?_)
  refine lv_istore_n (lv' := [(3, .int r3), (0, .ref (ad (pDesk 0))), (1, .ref (ad (pObj i1))), (2, .int x2)]) hx hb d_Desk_finishFirst_7 rfl hl (by decide) rfl (fun ls hl => ?_)
  refine lv_iload_n hx hb d_Desk_finishFirst_8 rfl (lv_at hl 0 rfl) ?_
  refine lv_iconst (v := (-1)) hx hb d_Desk_finishFirst_9 (by decide) ?_
  refine lv_icmp_ne (tgt := 14) hx hb d_Desk_finishFirst_10 (by decide) (fun c4 => ?_) (fun c4 => ?_)
  · have hF := vIf c4 hF
    refine lv_aload_n hx hb d_Desk_finishFirst_14 rfl (lv_at hl 1 rfl) ?_
    refine gf_Desk_transfers B hP (by decide) L_Desk_35 d_Desk_finishFirst_15 ?_
    refine lv_iload_n hx hb d_Desk_finishFirst_18 rfl (lv_at hl 0 rfl) ?_
    obtain ⟨j5, ej6, hj7, hn8, hF⟩ := vG_some hF
    refine al_ATra B hP (by decide) hn8 ej6 hj7 d_Desk_finishFirst_19 ?_
    refine lv_astore (lv' := [(4, .ref (ad (pTra j5))), (3, .int r3), (0, .ref (ad (pDesk 0))), (1, .ref (ad (pObj i1))), (2, .int x2)]) hx hb d_Desk_finishFirst_20 hl (by decide) rfl (fun ls hl => ?_)
    refine lv_aload hx hb d_Desk_finishFirst_22 (lv_at hl 0 rfl) ?_
    refine gf_Tra_toBeCancelled B hP hj7 L_Desk_295 d_Desk_finishFirst_24 ?_
    refine lv_if_eq (tgt := 41) hx hb d_Desk_finishFirst_27 (by decide) (fun c9 => ?_) (fun c9 => ?_)
    · have hF := vIt c9 hF
      refine lv_iload_n hx hb d_Desk_finishFirst_41 rfl (lv_at hl 4 rfl) ?_
      refine lv_if_eq (tgt := 60) hx hb d_Desk_finishFirst_42 (by decide) (fun c10 => ?_) (fun c10 => ?_)
      · have hF := vIt c10 hF
        refine lv_aload_n hx hb d_Desk_finishFirst_60 rfl (lv_at hl 3 rfl) ?_
        refine lv_iconst (v := 1) hx hb d_Desk_finishFirst_61 (by decide) ?_
        obtain ⟨r13, σ11, q12, hF⟩ := vB2_some hF
        refine ed_cvI (As := [.int 1]) (rest := []) B hP hD hS hA (C_Obj_hasLayer l D ad ca i1 1 σ1 r13 σ11 h1 q12) me_Obj_hasLayer mv_Obj_hasLayer L_Desk_381 (ed_rc_Obj B hP h1) ⟨rfl, rfl⟩ ⟨Nat.le_of_ble_eq_true rfl, Nat.le_of_ble_eq_true rfl⟩ rfl rfl hl.1 (lv_room (Nat.le_of_ble_eq_true rfl)) d_Desk_finishFirst_62 (fun H locs hP hD hS => ?_)
        refine lv_if_eq (tgt := 101) hx hb d_Desk_finishFirst_65 (by decide) (fun c14 => ?_) (fun c14 => ?_)
        · have hF := vIt c14 hF
          refine lv_aload_n hx hb d_Desk_finishFirst_101 rfl (lv_at hl 2 rfl) ?_
          refine lv_aload hx hb d_Desk_finishFirst_102 (lv_at hl 0 rfl) ?_
          refine lv_iconst (v := 4) hx hb d_Desk_finishFirst_104 (by decide) ?_
          refine lv_iconst (v := 0) hx hb d_Desk_finishFirst_105 (by decide) ?_
          obtain ⟨σ15, q16, hF⟩ := vB1_some hF
          refine ed_cvV (As := [.ref (ad (pTra j5)), .int 4, .int 0]) (rest := []) B hP hD hS hA (C_Desk_conclude l D ad ca j5 4 0 σ11 σ15 hj7 q16) me_Desk_conclude mv_Desk_conclude L_Desk_377 (ed_rc_Desk B hP (by decide)) ⟨rfl, rfl⟩ ⟨Nat.le_of_ble_eq_true rfl, Nat.le_of_ble_eq_true rfl⟩ rfl rfl hl.1 (lv_room (Nat.le_of_ble_eq_true rfl)) d_Desk_finishFirst_106 (fun H locs hP hD hS => ?_)
          exact ed_rV B hr hA hP hD hS (Option.some.inj hF) d_Desk_finishFirst_109
        · have hF := vIf c14 hF
          refine lv_aload_n hx hb d_Desk_finishFirst_68 rfl (lv_at hl 3 rfl) ?_
          refine lv_iconst (v := 4) hx hb d_Desk_finishFirst_69 (by decide) ?_
          obtain ⟨r19, σ17, q18, hF⟩ := vB2_some hF
          refine ed_cvI (As := [.int 4]) (rest := []) B hP hD hS hA (C_Obj_hasLayer l D ad ca i1 4 σ11 r19 σ17 h1 q18) me_Obj_hasLayer mv_Obj_hasLayer L_Desk_381 (ed_rc_Obj B hP h1) ⟨rfl, rfl⟩ ⟨Nat.le_of_ble_eq_true rfl, Nat.le_of_ble_eq_true rfl⟩ rfl rfl hl.1 (lv_room (Nat.le_of_ble_eq_true rfl)) d_Desk_finishFirst_70 (fun H locs hP hD hS => ?_)
          refine lv_if_eq (tgt := 101) hx hb d_Desk_finishFirst_73 (by decide) (fun c20 => ?_) (fun c20 => ?_)
          · have hF := vIt c20 hF
            refine lv_aload_n hx hb d_Desk_finishFirst_101 rfl (lv_at hl 2 rfl) ?_
            refine lv_aload hx hb d_Desk_finishFirst_102 (lv_at hl 0 rfl) ?_
            refine lv_iconst (v := 4) hx hb d_Desk_finishFirst_104 (by decide) ?_
            refine lv_iconst (v := 0) hx hb d_Desk_finishFirst_105 (by decide) ?_
            obtain ⟨σ21, q22, hF⟩ := vB1_some hF
            refine ed_cvV (As := [.ref (ad (pTra j5)), .int 4, .int 0]) (rest := []) B hP hD hS hA (C_Desk_conclude l D ad ca j5 4 0 σ17 σ21 hj7 q22) me_Desk_conclude mv_Desk_conclude L_Desk_377 (ed_rc_Desk B hP (by decide)) ⟨rfl, rfl⟩ ⟨Nat.le_of_ble_eq_true rfl, Nat.le_of_ble_eq_true rfl⟩ rfl rfl hl.1 (lv_room (Nat.le_of_ble_eq_true rfl)) d_Desk_finishFirst_106 (fun H locs hP hD hS => ?_)
            exact ed_rV B hr hA hP hD hS (Option.some.inj hF) d_Desk_finishFirst_109
          · have hF := vIf c20 hF
            refine lv_aload hx hb d_Desk_finishFirst_76 (lv_at hl 0 rfl) ?_
            refine gf_Tra_retried B hP hj7 L_Desk_298 d_Desk_finishFirst_78 ?_
            refine lv_if_ne (tgt := 101) hx hb d_Desk_finishFirst_81 (by decide) (fun c23 => ?_) (fun c23 => ?_)
            · have hF := vIf c23 hF
              refine lv_aload_n hx hb d_Desk_finishFirst_101 rfl (lv_at hl 2 rfl) ?_
              refine lv_aload hx hb d_Desk_finishFirst_102 (lv_at hl 0 rfl) ?_
              refine lv_iconst (v := 4) hx hb d_Desk_finishFirst_104 (by decide) ?_
              refine lv_iconst (v := 0) hx hb d_Desk_finishFirst_105 (by decide) ?_
              obtain ⟨σ24, q25, hF⟩ := vB1_some hF
              refine ed_cvV (As := [.ref (ad (pTra j5)), .int 4, .int 0]) (rest := []) B hP hD hS hA (C_Desk_conclude l D ad ca j5 4 0 σ17 σ24 hj7 q25) me_Desk_conclude mv_Desk_conclude L_Desk_377 (ed_rc_Desk B hP (by decide)) ⟨rfl, rfl⟩ ⟨Nat.le_of_ble_eq_true rfl, Nat.le_of_ble_eq_true rfl⟩ rfl rfl hl.1 (lv_room (Nat.le_of_ble_eq_true rfl)) d_Desk_finishFirst_106 (fun H locs hP hD hS => ?_)
              exact ed_rV B hr hA hP hD hS (Option.some.inj hF) d_Desk_finishFirst_109
            · have hF := vIt c23 hF
              refine lv_aload hx hb d_Desk_finishFirst_84 (lv_at hl 0 rfl) ?_
              refine lv_iconst (v := 1) hx hb d_Desk_finishFirst_86 (by decide) ?_
              obtain ⟨σ26, e27, hF⟩ := vL_some hF
              refine pf_Tra_retried B hP hD hS hj7 (by decide) e27 L_Desk_298 d_Desk_finishFirst_87 (fun H locs hP hD hS => ?_)
              refine lv_aload_n hx hb d_Desk_finishFirst_90 rfl (lv_at hl 3 rfl) ?_
              refine gf_Obj_row B hP h1 L_Desk_270 d_Desk_finishFirst_91 ?_
              refine lv_iload_n hx hb d_Desk_finishFirst_94 rfl (lv_at hl 1 rfl) ?_
              obtain ⟨σ28, q29, hF⟩ := vB1_some hF
              refine ed_cvV (As := [.int r3]) (rest := []) B hP hD hS hA (C_Row_addLast l D ad ca (16 + i1) r3 σ26 σ28 (ed_b16 h1) q29) me_Row_addLast mv_Row_addLast L_Desk_195 (ed_rc_Row B hP (ed_b16 h1)) ⟨rfl, rfl⟩ ⟨Nat.le_of_ble_eq_true rfl, Nat.le_of_ble_eq_true rfl⟩ rfl rfl hl.1 (lv_room (Nat.le_of_ble_eq_true rfl)) d_Desk_finishFirst_95 (fun H locs hP hD hS => ?_)
              refine lv_goto (tgt := 109) hx hb d_Desk_finishFirst_98 (by decide) ?_
              exact ed_rV B hr hA hP hD hS (Option.some.inj hF) d_Desk_finishFirst_109
      · have hF := vIf c10 hF
        refine lv_aload_n hx hb d_Desk_finishFirst_45 rfl (lv_at hl 2 rfl) ?_
        refine lv_aload hx hb d_Desk_finishFirst_46 (lv_at hl 0 rfl) ?_
        refine lv_iconst (v := 1) hx hb d_Desk_finishFirst_48 (by decide) ?_
        refine lv_aload hx hb d_Desk_finishFirst_49 (lv_at hl 0 rfl) ?_
        refine gf_Tra_length B hP hj7 L_Desk_292 d_Desk_finishFirst_51 ?_
        obtain ⟨σ30, q31, hF⟩ := vB1_some hF
        refine ed_cvV (As := [.ref (ad (pTra j5)), .int 1, .int (σ1 35 j5 0)]) (rest := []) B hP hD hS hA (C_Desk_conclude l D ad ca j5 1 (σ1 35 j5 0) σ1 σ30 hj7 q31) me_Desk_conclude mv_Desk_conclude L_Desk_377 (ed_rc_Desk B hP (by decide)) ⟨rfl, rfl⟩ ⟨Nat.le_of_ble_eq_true rfl, Nat.le_of_ble_eq_true rfl⟩ rfl rfl hl.1 (lv_room (Nat.le_of_ble_eq_true rfl)) d_Desk_finishFirst_54 (fun H locs hP hD hS => ?_)
        refine lv_goto (tgt := 109) hx hb d_Desk_finishFirst_57 (by decide) ?_
        exact ed_rV B hr hA hP hD hS (Option.some.inj hF) d_Desk_finishFirst_109
    · have hF := vIf c9 hF
      refine lv_aload_n hx hb d_Desk_finishFirst_30 rfl (lv_at hl 2 rfl) ?_
      refine lv_aload hx hb d_Desk_finishFirst_31 (lv_at hl 0 rfl) ?_
      refine lv_iconst (v := 5) hx hb d_Desk_finishFirst_33 (by decide) ?_
      refine lv_iconst (v := 0) hx hb d_Desk_finishFirst_34 (by decide) ?_
      obtain ⟨σ32, q33, hF⟩ := vB1_some hF
      refine ed_cvV (As := [.ref (ad (pTra j5)), .int 5, .int 0]) (rest := []) B hP hD hS hA (C_Desk_conclude l D ad ca j5 5 0 σ1 σ32 hj7 q33) me_Desk_conclude mv_Desk_conclude L_Desk_377 (ed_rc_Desk B hP (by decide)) ⟨rfl, rfl⟩ ⟨Nat.le_of_ble_eq_true rfl, Nat.le_of_ble_eq_true rfl⟩ rfl rfl hl.1 (lv_room (Nat.le_of_ble_eq_true rfl)) d_Desk_finishFirst_35 (fun H locs hP hD hS => ?_)
      refine lv_goto (tgt := 109) hx hb d_Desk_finishFirst_38 (by decide) ?_
      exact ed_rV B hr hA hP hD hS (Option.some.inj hF) d_Desk_finishFirst_109
  · have hF := vIt c4 hF
    exact ed_rV B hr hA hP hD hS (Option.some.inj hF) d_Desk_finishFirst_13
set_option maxHeartbeats 4000000 in
set_option maxRecDepth 100000 in
theorem C_Desk_finishFirst (l : Launch) (D : va_G) (ad : Nat → Nat) (ca : Nat → ClassId) (i1 : Nat) (x2 : Int32) (σ : ed_S) (σ' : ed_S) (h1 : i1 < 16) (hF : F_Desk_finishFirst i1 x2 σ = some σ') : ed_MV l y_Desk_finishFirst ws_Desk_finishFirst rm_Desk_finishFirst D ca (ed_w ad ca) [.ref (ad (pDesk 0)), .ref (ad (pObj i1)), .int x2] σ σ' := by
  refine ed_metV (cc := prog_1_method_52_code) (own := "ExecutiveDesk") (nL := 5) (ret := none) (by decide) rfl rfl (Nat.le_of_ble_eq_true rfl) ?_
  intro p e s m args below meth c A B hr hA
  exact T_Desk_finishFirst B hr hA i1 x2 σ h1 hF
abbrev ws_Desk_level : List Cond := Cond.code y_Desk_level prog_1_method_11_code 6 (some .int) :: ed_tb
abbrev rm_Desk_level : Room := { frames := 6, cells := 0, slots := 0, locals := 138 }
def F_Desk_level_114 : Nat → Int32 → Int32 → Int32 → ed_S → Option (Int32 × ed_S)
  | 0, _, _, _, _ => none
  | n + 1, x1, x2, x3, σ => (if (σ 1 0 0) ≤ x3 then (vB1 (F_Desk_lookWhoRuns  σ) fun σ2 => (some (x2, σ2))) else (vB1 (F_Desk_alertIfDue x3 σ) fun σ4 => ((F_Desk_level_114  n) x1 x2 (x3 + 1) σ4)))
def F_Desk_level_52 : Nat → Int32 → Int32 → Int32 → ed_S → Option (Int32 × ed_S)
  | 0, _, _, _, _ => none
  | n + 1, x1, x2, x3, σ => (if x3 ≤ 0 then (F_Desk_level_114  ed_fu x1 x2 0 σ) else (vB2 (F_Row_removeFirst 33 σ) fun r4 σ2 => (vG (r4 - r4 / 16 * 16) 16 fun j5 => (vL (ed_st σ2 25 j5 0 ((σ2 25 j5 0) - 1)) fun σ9 => (if r4 < 16 then (vB1 (F_Desk_finishFirst j5 0 σ9) fun σ12 => ((F_Desk_level_52  n) x1 x2 (x3 + (-1)) σ12)) else (vB1 (F_Desk_finishFirst j5 1 σ9) fun σ14 => ((F_Desk_level_52  n) x1 x2 (x3 + (-1)) σ14)))))))
def F_Desk_level (x1 : Int32) (σ : ed_S) : Option (Int32 × ed_S) := (if (σ 5 0 0) = (-1) then (some ((-3), σ)) else (vB2 (F_Desk_isWithin x1 0 1 σ) fun r4 σ2 => (if r4 = 0 then (some ((-1), σ2)) else (vL (ed_st σ2 4 0 0 x1) fun σ6 => (if (σ2 4 0 0) = 1 then (if x1 = 0 then (F_Desk_level_52  ed_fu x1 (σ2 4 0 0) (σ6 18 33 0) σ6) else (some ((σ2 4 0 0), σ6))) else (some ((σ2 4 0 0), σ6)))))))
set_option maxHeartbeats 4000000 in
set_option maxRecDepth 100000 in
theorem T_Desk_level_114 {r : Int32} {σ' : ed_S} (B : ed_B p s m args meth c prog_1_method_11_code "ExecutiveDesk" 6 D ca) (hr : meth.sig.returnType = (some .int)) (hA : ∀ q : Nat, s.heap.size ≤ q → A q) : ∀ (n : Nat) (x1 : Int32) (x2 : Int32) (x3 : Int32) (σ : ed_S), F_Desk_level_114  n x1 x2 x3 σ = some (r, σ') → ed_G p l e rm_Desk_level s m args below meth c D ca (ed_w ad ca) A (ed_QI D ca (ed_w ad ca) A below args s r σ') 6 114 [(0, .ref (ad (pDesk 0))), (1, .int x1), (2, .int x2), (3, .int x3)] [] σ := by
  have hx := B.1
  have hb := B.2.1
  intro n
  induction n with
  | zero => intro x1 x2 x3 σ  hF; exact absurd hF (by intro h; cases h)
  | succ n kk114 =>
    intro x1 x2 x3 σ  hF H locs ls hP hD hS hl
    have hF : (if (σ 1 0 0) ≤ x3 then (vB1 (F_Desk_lookWhoRuns  σ) fun σ2 => (some (x2, σ2))) else (vB1 (F_Desk_alertIfDue x3 σ) fun σ4 => ((F_Desk_level_114  n) x1 x2 (x3 + 1) σ4))) = some (r, σ') := hF
    refine lv_iload_n hx hb d_Desk_level_114 rfl (lv_at hl 3 rfl) ?_
    refine lv_aload_n hx hb d_Desk_level_115 rfl (lv_at hl 0 rfl) ?_
    refine gf_Desk_threadCount B hP (by decide) L_Desk_69 d_Desk_level_116 ?_
    refine lv_icmp_ge (tgt := 133) hx hb d_Desk_level_119 (by decide) (fun c1 => ?_) (fun c1 => ?_)
    · have hF := vIt c1 hF
      refine lv_aload_n hx hb d_Desk_level_133 rfl (lv_at hl 0 rfl) ?_
      obtain ⟨σ2, q3, hF⟩ := vB1_some hF
      refine ed_cvV (As := []) (rest := []) B hP hD hS hA (C_Desk_lookWhoRuns l D ad ca  σ σ2  q3) me_Desk_lookWhoRuns mv_Desk_lookWhoRuns L_Desk_89 (ed_rc_Desk B hP (by decide)) ⟨rfl, rfl⟩ ⟨Nat.le_of_ble_eq_true rfl, Nat.le_of_ble_eq_true rfl⟩ rfl rfl hl.1 (lv_room (Nat.le_of_ble_eq_true rfl)) d_Desk_level_134 (fun H locs hP hD hS => ?_)
      refine lv_iload_n hx hb d_Desk_level_137 rfl (lv_at hl 2 rfl) ?_
      exact ed_rI B hr hA hP hD hS (vP hF) d_Desk_level_138
    · have hF := vIf c1 hF
      refine lv_aload_n hx hb d_Desk_level_122 rfl (lv_at hl 0 rfl) ?_
      refine lv_iload_n hx hb d_Desk_level_123 rfl (lv_at hl 3 rfl) ?_
      obtain ⟨σ4, q5, hF⟩ := vB1_some hF
      refine ed_cvV (As := [.int x3]) (rest := []) B hP hD hS hA (C_Desk_alertIfDue l D ad ca x3 σ σ4  q5) me_Desk_alertIfDue mv_Desk_alertIfDue L_Desk_198 (ed_rc_Desk B hP (by decide)) ⟨rfl, rfl⟩ ⟨Nat.le_of_ble_eq_true rfl, Nat.le_of_ble_eq_true rfl⟩ rfl rfl hl.1 (lv_room (Nat.le_of_ble_eq_true rfl)) d_Desk_level_124 (fun H locs hP hD hS => ?_)
      refine lv_iinc (v := (x3 + 1)) (lv' := [(3, .int (x3 + 1)), (0, .ref (ad (pDesk 0))), (1, .int x1), (2, .int x2)]) hx hb d_Desk_level_127 hl (k := 3) rfl rfl (by decide) rfl (fun ls hl => ?_)
      refine lv_goto (tgt := 114) hx hb d_Desk_level_130 (by decide) ?_
      exact kk114 x1 x2 (x3 + 1) σ4  hF _ _ _ hP hD hS (lv_sub hl [1, 2, 3, 0] rfl)
set_option maxHeartbeats 4000000 in
set_option maxRecDepth 100000 in
theorem T_Desk_level_52 {r : Int32} {σ' : ed_S} (B : ed_B p s m args meth c prog_1_method_11_code "ExecutiveDesk" 6 D ca) (hr : meth.sig.returnType = (some .int)) (hA : ∀ q : Nat, s.heap.size ≤ q → A q) : ∀ (n : Nat) (x1 : Int32) (x2 : Int32) (x3 : Int32) (σ : ed_S), F_Desk_level_52  n x1 x2 x3 σ = some (r, σ') → ed_G p l e rm_Desk_level s m args below meth c D ca (ed_w ad ca) A (ed_QI D ca (ed_w ad ca) A below args s r σ') 6 52 [(0, .ref (ad (pDesk 0))), (1, .int x1), (2, .int x2), (3, .int x3)] [] σ := by
  have hx := B.1
  have hb := B.2.1
  intro n
  induction n with
  | zero => intro x1 x2 x3 σ  hF; exact absurd hF (by intro h; cases h)
  | succ n kk52 =>
    intro x1 x2 x3 σ  hF H locs ls hP hD hS hl
    have hF : (if x3 ≤ 0 then (F_Desk_level_114  ed_fu x1 x2 0 σ) else (vB2 (F_Row_removeFirst 33 σ) fun r4 σ2 => (vG (r4 - r4 / 16 * 16) 16 fun j5 => (vL (ed_st σ2 25 j5 0 ((σ2 25 j5 0) - 1)) fun σ9 => (if r4 < 16 then (vB1 (F_Desk_finishFirst j5 0 σ9) fun σ12 => ((F_Desk_level_52  n) x1 x2 (x3 + (-1)) σ12)) else (vB1 (F_Desk_finishFirst j5 1 σ9) fun σ14 => ((F_Desk_level_52  n) x1 x2 (x3 + (-1)) σ14))))))) = some (r, σ') := hF
    refine lv_iload_n hx hb d_Desk_level_52 rfl (lv_at hl 3 rfl) ?_
    refine lv_if_le (tgt := 112) hx hb d_Desk_level_53 (by decide) (fun c1 => ?_) (fun c1 => ?_)
    · have hF := vIt c1 hF
      refine lv_iconst (v := 0) hx hb d_Desk_level_112 (by decide) ?_
      refine lv_istore_n (lv' := [(3, .int 0), (0, .ref (ad (pDesk 0))), (1, .int x1), (2, .int x2)]) hx hb d_Desk_level_113 rfl hl (by decide) rfl (fun ls hl => ?_)
      exact T_Desk_level_114 B hr hA  ed_fu x1 x2 0 σ  hF _ _ _ hP hD hS (lv_sub hl [1, 2, 3, 0] rfl)
    · have hF := vIf c1 hF
      refine lv_aload_n hx hb d_Desk_level_56 rfl (lv_at hl 0 rfl) ?_
      refine gf_Desk_interrupts B hP (by decide) L_Desk_48 d_Desk_level_57 ?_
      obtain ⟨r4, σ2, q3, hF⟩ := vB2_some hF
      refine ed_cvI (As := []) (rest := []) B hP hD hS hA (C_Row_removeFirst l D ad ca 33 σ r4 σ2 (by decide) q3) me_Row_removeFirst mv_Row_removeFirst L_Desk_201 (ed_rc_Row B hP (by decide)) ⟨rfl, rfl⟩ ⟨Nat.le_of_ble_eq_true rfl, Nat.le_of_ble_eq_true rfl⟩ rfl rfl hl.1 (lv_room (Nat.le_of_ble_eq_true rfl)) d_Desk_level_60 (fun H locs hP hD hS => ?_)
      refine lv_istore (lv' := [(4, .int r4), (0, .ref (ad (pDesk 0))), (1, .int x1), (2, .int x2), (3, .int x3)]) hx hb d_Desk_level_63 hl (by decide) rfl (fun ls hl => ?_)
      refine lv_aload_n hx hb d_Desk_level_65 rfl (lv_at hl 1 rfl) ?_
      refine gf_Desk_objects B hP (by decide) L_Desk_29 d_Desk_level_66 ?_
      refine lv_iload hx hb d_Desk_level_69 (lv_at hl 0 rfl) ?_
      refine lv_bipush (v := 16) hx hb d_Desk_level_71 (by decide) ?_
      refine lv_irem hx hb d_Desk_level_73 (by decide) ?_
      obtain ⟨j5, ej6, hj7, hn8, hF⟩ := vG_some hF
      refine al_AObj B hP (by decide) hn8 ej6 hj7 d_Desk_level_74 ?_
      refine lv_astore (lv' := [(5, .ref (ad (pObj j5))), (4, .int r4), (0, .ref (ad (pDesk 0))), (1, .int x1), (2, .int x2), (3, .int x3)]) hx hb d_Desk_level_75 hl (by decide) rfl (fun ls hl => ?_)
      refine lv_aload hx hb d_Desk_level_77 (lv_at hl 0 rfl) ?_
      refine lv_dup hx hb d_Desk_level_79 rfl ?_
      refine gf_Obj_pointers B hP hj7 L_Desk_204 d_Desk_level_80 ?_
      refine lv_iconst (v := 1) hx hb d_Desk_level_83 (by decide) ?_
      refine lv_isub hx hb d_Desk_level_84 ?_
      obtain ⟨σ9, e10, hF⟩ := vL_some hF
      refine pf_Obj_pointers B hP hD hS hj7 e10 L_Desk_204 d_Desk_level_85 (fun H locs hP hD hS => ?_)
      refine lv_aload_n hx hb d_Desk_level_88 rfl (lv_at hl 2 rfl) ?_
      refine lv_aload hx hb d_Desk_level_89 (lv_at hl 0 rfl) ?_
      refine lv_iload hx hb d_Desk_level_91 (lv_at hl 1 rfl) ?_
      refine lv_bipush (v := 16) hx hb d_Desk_level_93 (by decide) ?_
      refine lv_icmp_lt (tgt := 102) hx hb d_Desk_level_95 (by decide) (fun c11 => ?_) (fun c11 => ?_)
      · have hF := vIt c11 hF
        refine lv_iconst (v := 0) hx hb d_Desk_level_102 (by decide) ?_
        obtain ⟨σ12, q13, hF⟩ := vB1_some hF
        refine ed_cvV (As := [.ref (ad (pObj j5)), .int 0]) (rest := []) B hP hD hS hA (C_Desk_finishFirst l D ad ca j5 0 σ9 σ12 hj7 q13) me_Desk_finishFirst mv_Desk_finishFirst L_Desk_207 (ed_rc_Desk B hP (by decide)) ⟨rfl, rfl⟩ ⟨Nat.le_of_ble_eq_true rfl, Nat.le_of_ble_eq_true rfl⟩ rfl rfl hl.1 (lv_room (Nat.le_of_ble_eq_true rfl)) d_Desk_level_103 (fun H locs hP hD hS => ?_)
        refine lv_iinc (v := (x3 + (-1))) (lv' := [(3, .int (x3 + (-1))), (5, .ref (ad (pObj j5))), (4, .int r4), (0, .ref (ad (pDesk 0))), (1, .int x1), (2, .int x2)]) hx hb d_Desk_level_106 hl (k := 5) rfl rfl (by decide) rfl (fun ls hl => ?_)
        refine lv_goto (tgt := 52) hx hb d_Desk_level_109 (by decide) ?_
        exact kk52 x1 x2 (x3 + (-1)) σ12  hF _ _ _ hP hD hS (lv_sub hl [3, 4, 5, 0] rfl)
      · have hF := vIf c11 hF
        refine lv_iconst (v := 1) hx hb d_Desk_level_98 (by decide) ?_
        refine lv_goto (tgt := 103) hx hb d_Desk_level_99 (by decide) ?_
        obtain ⟨σ14, q15, hF⟩ := vB1_some hF
        refine ed_cvV (As := [.ref (ad (pObj j5)), .int 1]) (rest := []) B hP hD hS hA (C_Desk_finishFirst l D ad ca j5 1 σ9 σ14 hj7 q15) me_Desk_finishFirst mv_Desk_finishFirst L_Desk_207 (ed_rc_Desk B hP (by decide)) ⟨rfl, rfl⟩ ⟨Nat.le_of_ble_eq_true rfl, Nat.le_of_ble_eq_true rfl⟩ rfl rfl hl.1 (lv_room (Nat.le_of_ble_eq_true rfl)) d_Desk_level_103 (fun H locs hP hD hS => ?_)
        refine lv_iinc (v := (x3 + (-1))) (lv' := [(3, .int (x3 + (-1))), (5, .ref (ad (pObj j5))), (4, .int r4), (0, .ref (ad (pDesk 0))), (1, .int x1), (2, .int x2)]) hx hb d_Desk_level_106 hl (k := 5) rfl rfl (by decide) rfl (fun ls hl => ?_)
        refine lv_goto (tgt := 52) hx hb d_Desk_level_109 (by decide) ?_
        exact kk52 x1 x2 (x3 + (-1)) σ14  hF _ _ _ hP hD hS (lv_sub hl [3, 4, 5, 0] rfl)
set_option maxHeartbeats 4000000 in
set_option maxRecDepth 100000 in
theorem T_Desk_level {r : Int32} {σ' : ed_S} (B : ed_B p s m args meth c prog_1_method_11_code "ExecutiveDesk" 6 D ca) (hr : meth.sig.returnType = (some .int)) (hA : ∀ q : Nat, s.heap.size ≤ q → A q) : ∀ (x1 : Int32) (σ : ed_S), F_Desk_level  x1 σ = some (r, σ') → ed_G p l e rm_Desk_level s m args below meth c D ca (ed_w ad ca) A (ed_QI D ca (ed_w ad ca) A below args s r σ') 6 0 [(0, .ref (ad (pDesk 0))), (1, .int x1)] [] σ := by
  have hx := B.1
  have hb := B.2.1
  intro x1 σ  hF H locs ls hP hD hS hl
  have hF : (if (σ 5 0 0) = (-1) then (some ((-3), σ)) else (vB2 (F_Desk_isWithin x1 0 1 σ) fun r4 σ2 => (if r4 = 0 then (some ((-1), σ2)) else (vL (ed_st σ2 4 0 0 x1) fun σ6 => (if (σ2 4 0 0) = 1 then (if x1 = 0 then (F_Desk_level_52  ed_fu x1 (σ2 4 0 0) (σ6 18 33 0) σ6) else (some ((σ2 4 0 0), σ6))) else (some ((σ2 4 0 0), σ6))))))) = some (r, σ') := hF
  refine lv_aload_n hx hb d_Desk_level_0 rfl (lv_at hl 0 rfl) ?_
  refine gf_Desk_scheduler B hP (by decide) L_Desk_18 d_Desk_level_1 ?_
  refine gf_Sched_running B hP (by decide) L_Desk_92 d_Desk_level_4 ?_
  refine lv_iconst (v := (-1)) hx hb d_Desk_level_7 (by decide) ?_
  refine lv_icmp_ne (tgt := 14) hx hb d_Desk_level_8 (by decide) (fun c1 => ?_) (fun c1 => ?_)
  · have hF := vIf c1 hF
    refine lv_iload_n hx hb d_Desk_level_14 rfl (lv_at hl 1 rfl) ?_
    refine lv_iconst (v := 0) hx hb d_Desk_level_15 (by decide) ?_
    refine lv_iconst (v := 1) hx hb d_Desk_level_16 (by decide) ?_
    obtain ⟨r4, σ2, q3, hF⟩ := vB2_some hF
    refine ed_csI (As := [.int x1, .int 0, .int 1]) (rest := []) B hP hD hS hA (C_Desk_isWithin l D ad ca x1 0 1 σ r4 σ2  q3) me_Desk_isWithin st_Desk_isWithin L_Desk_54 ⟨rfl, rfl⟩ ⟨Nat.le_of_ble_eq_true rfl, Nat.le_of_ble_eq_true rfl⟩ rfl rfl hl.1 (lv_room (Nat.le_of_ble_eq_true rfl)) d_Desk_level_17 (fun H locs hP hD hS => ?_)
    refine lv_if_ne (tgt := 25) hx hb d_Desk_level_20 (by decide) (fun c5 => ?_) (fun c5 => ?_)
    · have hF := vIf c5 hF
      refine lv_aload_n hx hb d_Desk_level_25 rfl (lv_at hl 0 rfl) ?_
      refine gf_Desk_currentLevel B hP (by decide) L_Desk_163 d_Desk_level_26 ?_
      refine lv_istore_n (lv' := [(2, .int (σ2 4 0 0)), (0, .ref (ad (pDesk 0))), (1, .int x1)]) hx hb d_Desk_level_29 rfl hl (by decide) rfl (fun ls hl => ?_)
      refine lv_aload_n hx hb d_Desk_level_30 rfl (lv_at hl 1 rfl) ?_
      refine lv_iload_n hx hb d_Desk_level_31 rfl (lv_at hl 2 rfl) ?_
      obtain ⟨σ6, e7, hF⟩ := vL_some hF
      refine pf_Desk_currentLevel B hP hD hS (by decide) e7 L_Desk_163 d_Desk_level_32 (fun H locs hP hD hS => ?_)
      refine lv_iload_n hx hb d_Desk_level_35 rfl (lv_at hl 0 rfl) ?_
      refine lv_iconst (v := 1) hx hb d_Desk_level_36 (by decide) ?_
      refine lv_icmp_ne (tgt := 137) hx hb d_Desk_level_37 (by decide) (fun c8 => ?_) (fun c8 => ?_)
      · have hF := vIf c8 hF
        refine lv_iload_n hx hb d_Desk_level_137 rfl (lv_at hl 0 rfl) ?_
        exact ed_rI B hr hA hP hD hS (vP hF) d_Desk_level_138
      · have hF := vIt c8 hF
        refine lv_iload_n hx hb d_Desk_level_40 rfl (lv_at hl 2 rfl) ?_
        refine lv_if_ne (tgt := 137) hx hb d_Desk_level_41 (by decide) (fun c9 => ?_) (fun c9 => ?_)
        · have hF := vIf c9 hF
          refine lv_iload_n hx hb d_Desk_level_137 rfl (lv_at hl 0 rfl) ?_
          exact ed_rI B hr hA hP hD hS (vP hF) d_Desk_level_138
        · have hF := vIt c9 hF
          refine lv_aload_n hx hb d_Desk_level_44 rfl (lv_at hl 1 rfl) ?_
          refine gf_Desk_interrupts B hP (by decide) L_Desk_48 d_Desk_level_45 ?_
          refine gf_Row_size B hP (by decide) L_Desk_181 d_Desk_level_48 ?_
          refine lv_istore_n (lv' := [(3, .int (σ6 18 33 0)), (2, .int (σ2 4 0 0)), (0, .ref (ad (pDesk 0))), (1, .int x1)]) hx hb d_Desk_level_51 rfl hl (by decide) rfl (fun ls hl => ?_)
          exact T_Desk_level_52 B hr hA  ed_fu x1 (σ2 4 0 0) (σ6 18 33 0) σ6  hF _ _ _ hP hD hS (lv_sub hl [2, 3, 1, 0] rfl)
    · have hF := vIt c5 hF
      refine lv_iconst (v := (-1)) hx hb d_Desk_level_23 (by decide) ?_
      exact ed_rI B hr hA hP hD hS (vP hF) d_Desk_level_24
  · have hF := vIt c1 hF
    refine lv_bipush (v := (-3)) hx hb d_Desk_level_11 (by decide) ?_
    exact ed_rI B hr hA hP hD hS (vP hF) d_Desk_level_13
set_option maxHeartbeats 4000000 in
set_option maxRecDepth 100000 in
theorem C_Desk_level (l : Launch) (D : va_G) (ad : Nat → Nat) (ca : Nat → ClassId) (x1 : Int32) (σ : ed_S) (r : Int32) (σ' : ed_S) (hF : F_Desk_level x1 σ = some (r, σ')) : ed_MI l y_Desk_level ws_Desk_level rm_Desk_level D ca (ed_w ad ca) [.ref (ad (pDesk 0)), .int x1] σ r σ' := by
  refine ed_metI (cc := prog_1_method_11_code) (own := "ExecutiveDesk") (nL := 6) (ret := (some .int)) (by decide) rfl rfl (Nat.le_of_ble_eq_true rfl) ?_
  intro p e s m args below meth c A B hr hA
  exact T_Desk_level B hr hA x1 σ  hF
end EDT
