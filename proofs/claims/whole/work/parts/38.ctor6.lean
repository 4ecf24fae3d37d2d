
def ed_fi (t : Nat) : Nat → Int32 := fun j => if j < t then -1 else 0
theorem ed_fi_0 : ed_fi 0 = (fun _ => 0) := by
  funext j
  simp [ed_fi]
theorem ed_fi_s (t : Nat) : upd (ed_fi t) t (-1) = ed_fi (t + 1) := by
  funext j
  unfold upd ed_fi
  by_cases h : j = t
  · rw [if_pos h, if_pos (by omega)]
  · rw [if_neg h]
    by_cases h2 : j < t
    · rw [if_pos h2, if_pos (by omega)]
    · rw [if_neg h2, if_neg (by omega)]
theorem ed_same {ws : va_W} {p : Nat} {x : Nat × va_E} (h : ws[p]? = some x) : ws.set p x = ws := by
  apply List.ext_getElem?
  intro k
  by_cases hk : k = p
  · subst hk
    rw [List.getElem?_set_self (List.getElem?_eq_some_iff.mp h).1, h]
  · rw [List.getElem?_set_ne (Ne.symm hk)]
abbrev rm_Mod_init : Room := { frames := 1, cells := 42, slots := 652, locals := 12 }
set_option maxHeartbeats 40000000 in
set_option maxRecDepth 100000 in
theorem T_Mod_fillH {p : Program} {l : Launch} {e : Env} {s : State} {m : MethodId} {args : Array Value} {below : List Frame} {meth : Method} {c : Code} {D : va_G} {ca : Nat → ClassId} {A : Nat → Prop} {Q : State → Prop} (B : ed_Bc p s m args meth c prog_10_method_1_code "ExecutiveDeskModel" 2 D ca) (h0 a : Nat) (fs : List Value) (ws : va_W) (h00 : ws[0]? = some (h0, .inr (8, fs))) (hf : fs[3]? = some (.ref a)) (hlen : 4 < ws.length)
    (kk : ∀ (H : Heap) (locs : List Loc) (ls : Array Slot), va_P D vwCl (ws.set 4 (a, .inl (ca 0, 32, .inl (ed_fi 32)))) H → va_D A (ws.set 4 (a, .inl (ca 0, 32, .inl (ed_fi 32)))) → va_S A s.heap H locs → lv_has ls 2 [(0, .ref h0)] → W p l e rm_Mod_init s m args below meth c H locs 42 652 Q (F0 m 368 ls [])) :
    ∀ (n t : Nat) (H : Heap) (locs : List Loc) (ls : Array Slot), t + n = 32 → va_P D vwCl (ws.set 4 (a, .inl (ca 0, 32, .inl (ed_fi t)))) H → va_D A (ws.set 4 (a, .inl (ca 0, 32, .inl (ed_fi t)))) → va_S A s.heap H locs → lv_has ls 2 [(1, .int (nI t)), (0, .ref h0)] → W p l e rm_Mod_init s m args below meth c H locs 42 652 Q (F0 m 349 ls []) := by
  have hx := B.1
  have hb := B.2.1
  have hK := B.2.2.2.2.2.1
  intro n
  induction n with
  | zero =>
    intro t H locs ls ht hP hD hS hl
    have ht : t = 32 := by omega
    subst ht
    refine lv_iload_n hx hb d_Mod_init_349 rfl (lv_at hl 0 rfl) ?_
    refine lv_bipush (v := 32) hx hb d_Mod_init_350 (by decide) ?_
    refine lv_icmp_ge (tgt := 368) hx hb d_Mod_init_352 (by decide) (fun c0 => ?_) (fun c0 => ?_)
    · exact kk H locs ls hP hD hS (lv_sub hl [1] rfl)
    · exact absurd (by decide) c0
  | succ n ih =>
    intro t H locs ls ht hP hD hS hl
    have htN : t < 32 := by omega
    refine lv_iload_n hx hb d_Mod_init_349 rfl (lv_at hl 0 rfl) ?_
    refine lv_bipush (v := 32) hx hb d_Mod_init_350 (by decide) ?_
    refine lv_icmp_ge (tgt := 368) hx hb d_Mod_init_352 (by decide) (fun c0 => ?_) (fun c0 => ?_)
    · exact absurd ((nI_leI (a := 32) (b := t) (by omega) (by omega)).mp c0) (by omega)
    · refine lv_aload_n hx hb d_Mod_init_355 rfl (lv_at hl 1 rfl) ?_
      refine va_get (D := D) (ci := 8) (v := .ref a) (C := "ExecutiveDeskModel") (T := T_Mod) (N := 53) hx hb B.2.2.2.2.1 iw_Mod B.2.2.2.1 hK hP 0 ((List.getElem?_set_ne (by omega)).trans h00) rfl 3 (by decide) (B.2.2.2.2.1 _ L_Mod_19) (fun _ h9 => h9) hf d_Mod_init_356 ?_
      refine lv_iload_n hx hb d_Mod_init_359 rfl (lv_at hl 0 rfl) ?_
      refine lv_iconst (v := (-1)) hx hb d_Mod_init_360 (by decide) ?_
      refine va_iast hx hb hK hP hD hS 4 0 (List.getElem?_set_self hlen) rfl (i := nI t) (x := (-1)) (vp_in_nI htN (by omega)) d_Mod_init_361 (fun H locs hP hD hS => ?_)
      rw [List.set_set, nI_clamp (by omega), ed_fi_s] at hP hD
      refine lv_iinc (v := nI (t + 1)) (lv' := [(1, .int (nI (t + 1))), (0, .ref h0)]) hx hb d_Mod_init_362 hl (k := 0) rfl (nI_1 t) (by decide) rfl (fun ls hl => ?_)
      refine lv_goto (tgt := 349) hx hb d_Mod_init_365 (by decide) ?_
      exact ih (t + 1) H locs ls (by omega) hP hD hS hl
set_option maxHeartbeats 40000000 in
set_option maxRecDepth 100000 in
theorem T_Mod_fillT {p : Program} {l : Launch} {e : Env} {s : State} {m : MethodId} {args : Array Value} {below : List Frame} {meth : Method} {c : Code} {D : va_G} {ca : Nat → ClassId} {A : Nat → Prop} {Q : State → Prop} (B : ed_Bc p s m args meth c prog_10_method_1_code "ExecutiveDeskModel" 2 D ca) (h0 a : Nat) (fs : List Value) (ws : va_W) (h00 : ws[0]? = some (h0, .inr (8, fs))) (hf : fs[31]? = some (.ref a)) (hlen : 32 < ws.length)
    (kk : ∀ (H : Heap) (locs : List Loc) (ls : Array Slot), va_P D vwCl (ws.set 32 (a, .inl (ca 0, 8, .inl (ed_fi 8)))) H → va_D A (ws.set 32 (a, .inl (ca 0, 8, .inl (ed_fi 8)))) → va_S A s.heap H locs → lv_has ls 2 [(0, .ref h0)] → W p l e rm_Mod_init s m args below meth c H locs 42 652 Q (F0 m 389 ls [])) :
    ∀ (n t : Nat) (H : Heap) (locs : List Loc) (ls : Array Slot), t + n = 8 → va_P D vwCl (ws.set 32 (a, .inl (ca 0, 8, .inl (ed_fi t)))) H → va_D A (ws.set 32 (a, .inl (ca 0, 8, .inl (ed_fi t)))) → va_S A s.heap H locs → lv_has ls 2 [(1, .int (nI t)), (0, .ref h0)] → W p l e rm_Mod_init s m args below meth c H locs 42 652 Q (F0 m 370 ls []) := by
  have hx := B.1
  have hb := B.2.1
  have hK := B.2.2.2.2.2.1
  intro n
  induction n with
  | zero =>
    intro t H locs ls ht hP hD hS hl
    have ht : t = 8 := by omega
    subst ht
    refine lv_iload_n hx hb d_Mod_init_370 rfl (lv_at hl 0 rfl) ?_
    refine lv_bipush (v := 8) hx hb d_Mod_init_371 (by decide) ?_
    refine lv_icmp_ge (tgt := 389) hx hb d_Mod_init_373 (by decide) (fun c0 => ?_) (fun c0 => ?_)
    · exact kk H locs ls hP hD hS (lv_sub hl [1] rfl)
    · exact absurd (by decide) c0
  | succ n ih =>
    intro t H locs ls ht hP hD hS hl
    have htN : t < 8 := by omega
    refine lv_iload_n hx hb d_Mod_init_370 rfl (lv_at hl 0 rfl) ?_
    refine lv_bipush (v := 8) hx hb d_Mod_init_371 (by decide) ?_
    refine lv_icmp_ge (tgt := 389) hx hb d_Mod_init_373 (by decide) (fun c0 => ?_) (fun c0 => ?_)
    · exact absurd ((nI_leI (a := 8) (b := t) (by omega) (by omega)).mp c0) (by omega)
    · refine lv_aload_n hx hb d_Mod_init_376 rfl (lv_at hl 1 rfl) ?_
      refine va_get (D := D) (ci := 8) (v := .ref a) (C := "ExecutiveDeskModel") (T := T_Mod) (N := 53) hx hb B.2.2.2.2.1 iw_Mod B.2.2.2.1 hK hP 0 ((List.getElem?_set_ne (by omega)).trans h00) rfl 31 (by decide) (B.2.2.2.2.1 _ L_Mod_104) (fun _ h9 => h9) hf d_Mod_init_377 ?_
      refine lv_iload_n hx hb d_Mod_init_380 rfl (lv_at hl 0 rfl) ?_
      refine lv_iconst (v := (-1)) hx hb d_Mod_init_381 (by decide) ?_
      refine va_iast hx hb hK hP hD hS 32 0 (List.getElem?_set_self hlen) rfl (i := nI t) (x := (-1)) (vp_in_nI htN (by omega)) d_Mod_init_382 (fun H locs hP hD hS => ?_)
      rw [List.set_set, nI_clamp (by omega), ed_fi_s] at hP hD
      refine lv_iinc (v := nI (t + 1)) (lv' := [(1, .int (nI (t + 1))), (0, .ref h0)]) hx hb d_Mod_init_383 hl (k := 0) rfl (nI_1 t) (by decide) rfl (fun ls hl => ?_)
      refine lv_goto (tgt := 370) hx hb d_Mod_init_386 (by decide) ?_
      exact ih (t + 1) H locs ls (by omega) hP hD hS hl
