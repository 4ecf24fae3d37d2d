section EDF
variable {p : Program} {l : Launch} {e : Env} {R : Room} {s : State} {m : MethodId} {args : Array Value} {below : List Frame} {meth : Method} {c : Code} {H : Heap} {locs : List Loc} {cells slots : Nat} {Q : State → Prop}
variable {cc : ByteArray} {pc index nL : Nat} {ls : Array Slot} {rest : List Value} {D : va_G} {ad : Nat → Nat} {ca : Nat → ClassId} {A : Nat → Prop} {σ σ1 σ2 : ed_S} {i j : Nat} {v x : Int32} {own : String}
theorem gf_Desk_processes (B : ed_B p s m args meth c cc own nL D ca) (hP : va_P D vwCl (ed_w ad ca σ) H) (h : i < 1) (hlink : Cond.fieldLink own index "ExecutiveDesk" "processes" "[LExecutiveDesk$ProcessState;" ∈ ed_tb) (hdg : decode cc pc = .ok (.getfield index, 3))
    (kk : W p l e R s m args below meth c H locs cells slots Q (F0 m (pc + 3) ls (.ref (ad (pAProc 0)) :: rest))) : W p l e R s m args below meth c H locs cells slots Q (F0 m pc ls (.ref (ad (pDesk i)) :: rest)) :=
  va_get (D := D) (ci := 7) (C := "ExecutiveDesk") (T := T_Desk) (N := 12) B.1 B.2.1 B.2.2.2.2.1 iw_Desk B.2.2.2.1 B.2.2.2.2.2.1 hP (pDesk i) (ed_w_Desk h) rfl 0 (by decide) (B.2.2.2.2.1 _ hlink) (fun _ q => q) rfl hdg kk
theorem gf_Desk_scheduler (B : ed_B p s m args meth c cc own nL D ca) (hP : va_P D vwCl (ed_w ad ca σ) H) (h : i < 1) (hlink : Cond.fieldLink own index "ExecutiveDesk" "scheduler" "LExecutiveDesk$Scheduler;" ∈ ed_tb) (hdg : decode cc pc = .ok (.getfield index, 3))
    (kk : W p l e R s m args below meth c H locs cells slots Q (F0 m (pc + 3) ls (.ref (ad (pSched 0)) :: rest))) : W p l e R s m args below meth c H locs cells slots Q (F0 m pc ls (.ref (ad (pDesk i)) :: rest)) :=
  va_get (D := D) (ci := 7) (C := "ExecutiveDesk") (T := T_Desk) (N := 12) B.1 B.2.1 B.2.2.2.2.1 iw_Desk B.2.2.2.1 B.2.2.2.2.2.1 hP (pDesk i) (ed_w_Desk h) rfl 1 (by decide) (B.2.2.2.2.1 _ hlink) (fun _ q => q) rfl hdg kk
theorem gf_Desk_threads (B : ed_B p s m args meth c cc own nL D ca) (hP : va_P D vwCl (ed_w ad ca σ) H) (h : i < 1) (hlink : Cond.fieldLink own index "ExecutiveDesk" "threads" "[LExecutiveDesk$ThreadState;" ∈ ed_tb) (hdg : decode cc pc = .ok (.getfield index, 3))
    (kk : W p l e R s m args below meth c H locs cells slots Q (F0 m (pc + 3) ls (.ref (ad (pAThr 0)) :: rest))) : W p l e R s m args below meth c H locs cells slots Q (F0 m pc ls (.ref (ad (pDesk i)) :: rest)) :=
  va_get (D := D) (ci := 7) (C := "ExecutiveDesk") (T := T_Desk) (N := 12) B.1 B.2.1 B.2.2.2.2.1 iw_Desk B.2.2.2.1 B.2.2.2.2.2.1 hP (pDesk i) (ed_w_Desk h) rfl 2 (by decide) (B.2.2.2.2.1 _ hlink) (fun _ q => q) rfl hdg kk
theorem gf_Desk_objects (B : ed_B p s m args meth c cc own nL D ca) (hP : va_P D vwCl (ed_w ad ca σ) H) (h : i < 1) (hlink : Cond.fieldLink own index "ExecutiveDesk" "objects" "[LExecutiveDesk$ObjectState;" ∈ ed_tb) (hdg : decode cc pc = .ok (.getfield index, 3))
    (kk : W p l e R s m args below meth c H locs cells slots Q (F0 m (pc + 3) ls (.ref (ad (pAObj 0)) :: rest))) : W p l e R s m args below meth c H locs cells slots Q (F0 m pc ls (.ref (ad (pDesk i)) :: rest)) :=
  va_get (D := D) (ci := 7) (C := "ExecutiveDesk") (T := T_Desk) (N := 12) B.1 B.2.1 B.2.2.2.2.1 iw_Desk B.2.2.2.1 B.2.2.2.2.2.1 hP (pDesk i) (ed_w_Desk h) rfl 3 (by decide) (B.2.2.2.2.1 _ hlink) (fun _ q => q) rfl hdg kk
theorem gf_Desk_transfers (B : ed_B p s m args meth c cc own nL D ca) (hP : va_P D vwCl (ed_w ad ca σ) H) (h : i < 1) (hlink : Cond.fieldLink own index "ExecutiveDesk" "transfers" "[LExecutiveDesk$TransferState;" ∈ ed_tb) (hdg : decode cc pc = .ok (.getfield index, 3))
    (kk : W p l e R s m args below meth c H locs cells slots Q (F0 m (pc + 3) ls (.ref (ad (pATra 0)) :: rest))) : W p l e R s m args below meth c H locs cells slots Q (F0 m pc ls (.ref (ad (pDesk i)) :: rest)) :=
  va_get (D := D) (ci := 7) (C := "ExecutiveDesk") (T := T_Desk) (N := 12) B.1 B.2.1 B.2.2.2.2.1 iw_Desk B.2.2.2.1 B.2.2.2.2.2.1 hP (pDesk i) (ed_w_Desk h) rfl 4 (by decide) (B.2.2.2.2.1 _ hlink) (fun _ q => q) rfl hdg kk
theorem gf_Desk_waiting (B : ed_B p s m args meth c cc own nL D ca) (hP : va_P D vwCl (ed_w ad ca σ) H) (h : i < 1) (hlink : Cond.fieldLink own index "ExecutiveDesk" "waiting" "LExecutiveDesk$Row;" ∈ ed_tb) (hdg : decode cc pc = .ok (.getfield index, 3))
    (kk : W p l e R s m args below meth c H locs cells slots Q (F0 m (pc + 3) ls (.ref (ad (pRow 32)) :: rest))) : W p l e R s m args below meth c H locs cells slots Q (F0 m pc ls (.ref (ad (pDesk i)) :: rest)) :=
  va_get (D := D) (ci := 7) (C := "ExecutiveDesk") (T := T_Desk) (N := 12) B.1 B.2.1 B.2.2.2.2.1 iw_Desk B.2.2.2.1 B.2.2.2.2.2.1 hP (pDesk i) (ed_w_Desk h) rfl 5 (by decide) (B.2.2.2.2.1 _ hlink) (fun _ q => q) rfl hdg kk
theorem gf_Desk_interrupts (B : ed_B p s m args meth c cc own nL D ca) (hP : va_P D vwCl (ed_w ad ca σ) H) (h : i < 1) (hlink : Cond.fieldLink own index "ExecutiveDesk" "interrupts" "LExecutiveDesk$Row;" ∈ ed_tb) (hdg : decode cc pc = .ok (.getfield index, 3))
    (kk : W p l e R s m args below meth c H locs cells slots Q (F0 m (pc + 3) ls (.ref (ad (pRow 33)) :: rest))) : W p l e R s m args below meth c H locs cells slots Q (F0 m pc ls (.ref (ad (pDesk i)) :: rest)) :=
  va_get (D := D) (ci := 7) (C := "ExecutiveDesk") (T := T_Desk) (N := 12) B.1 B.2.1 B.2.2.2.2.1 iw_Desk B.2.2.2.1 B.2.2.2.2.2.1 hP (pDesk i) (ed_w_Desk h) rfl 6 (by decide) (B.2.2.2.2.1 _ hlink) (fun _ q => q) rfl hdg kk
theorem gf_Desk_processCount (B : ed_B p s m args meth c cc own nL D ca) (hP : va_P D vwCl (ed_w ad ca σ) H) (h : i < 1) (hlink : Cond.fieldLink own index "ExecutiveDesk" "processCount" "I" ∈ ed_tb) (hdg : decode cc pc = .ok (.getfield index, 3))
    (kk : W p l e R s m args below meth c H locs cells slots Q (F0 m (pc + 3) ls (.int (σ 0 i 0) :: rest))) : W p l e R s m args below meth c H locs cells slots Q (F0 m pc ls (.ref (ad (pDesk i)) :: rest)) :=
  va_get (D := D) (ci := 7) (C := "ExecutiveDesk") (T := T_Desk) (N := 12) B.1 B.2.1 B.2.2.2.2.1 iw_Desk B.2.2.2.1 B.2.2.2.2.2.1 hP (pDesk i) (ed_w_Desk h) rfl 7 (by decide) (B.2.2.2.2.1 _ hlink) (fun _ q => q) rfl hdg kk
theorem pf_Desk_processCount (B : ed_B p s m args meth c cc own nL D ca) (hP : va_P D vwCl (ed_w ad ca σ) H) (hD : va_D A (ed_w ad ca σ)) (hS : va_S A s.heap H locs) (h : i < 1) (eq : σ1 = ed_st σ 0 i 0 v) (hlink : Cond.fieldLink own index "ExecutiveDesk" "processCount" "I" ∈ ed_tb) (hdg : decode cc pc = .ok (.putfield index, 3))
    (kk : ∀ (H1 : Heap) (locs1 : List Loc), va_P D vwCl (ed_w ad ca σ1) H1 → va_D A (ed_w ad ca σ1) → va_S A s.heap H1 locs1 → W p l e R s m args below meth c H1 locs1 cells slots Q (F0 m (pc + 3) ls rest)) : W p l e R s m args below meth c H locs cells slots Q (F0 m pc ls (.int v :: .ref (ad (pDesk i)) :: rest)) := by
  subst eq
  refine va_put (D := D) (ci := 7) (C := "ExecutiveDesk") (T := T_Desk) (N := 12) (v := .int v) (ty := .int) B.1 B.2.1 B.2.2.2.2.1 iw_Desk ty_Desk tyok_Desk nm_Desk B.2.2.2.1 B.2.2.2.2.2.1 hP hD hS (pDesk i) (ed_w_Desk h) rfl 7 (by decide) (B.2.2.2.2.1 _ hlink) (fun _ q => q) rfl (by decide +kernel) rfl rfl (Nat.le_of_ble_eq_true rfl) hdg (fun H1 locs1 hP1 hD1 hS1 => ?_)
  have q0 := ed_w_set (ad := ad) (ca := ca) (σ := σ) (σ2 := ed_st σ 0 i 0 v) (ed_lt_Desk h) (ed_ct_Desk h) (fun z hz => ed_ct_st hz)
  have q1 : cDesk ad ca (ed_st σ 0 i 0 v) i = .inr (7, List.set [.ref (ad (pAProc 0)), .ref (ad (pSched 0)), .ref (ad (pAThr 0)), .ref (ad (pAObj 0)), .ref (ad (pATra 0)), .ref (ad (pRow 32)), .ref (ad (pRow 33)), .int (σ 0 i 0), .int (σ 1 i 0), .int (σ 2 i 0), .int (σ 3 i 0), .int (σ 4 i 0)] 7 (.int v)) := by simp [cDesk, ed_st]
  rw [q1] at q0
  rw [q0] at hP1 hD1
  exact kk H1 locs1 hP1 hD1 hS1
theorem gf_Desk_threadCount (B : ed_B p s m args meth c cc own nL D ca) (hP : va_P D vwCl (ed_w ad ca σ) H) (h : i < 1) (hlink : Cond.fieldLink own index "ExecutiveDesk" "threadCount" "I" ∈ ed_tb) (hdg : decode cc pc = .ok (.getfield index, 3))
    (kk : W p l e R s m args below meth c H locs cells slots Q (F0 m (pc + 3) ls (.int (σ 1 i 0) :: rest))) : W p l e R s m args below meth c H locs cells slots Q (F0 m pc ls (.ref (ad (pDesk i)) :: rest)) :=
  va_get (D := D) (ci := 7) (C := "ExecutiveDesk") (T := T_Desk) (N := 12) B.1 B.2.1 B.2.2.2.2.1 iw_Desk B.2.2.2.1 B.2.2.2.2.2.1 hP (pDesk i) (ed_w_Desk h) rfl 8 (by decide) (B.2.2.2.2.1 _ hlink) (fun _ q => q) rfl hdg kk
theorem pf_Desk_threadCount (B : ed_B p s m args meth c cc own nL D ca) (hP : va_P D vwCl (ed_w ad ca σ) H) (hD : va_D A (ed_w ad ca σ)) (hS : va_S A s.heap H locs) (h : i < 1) (eq : σ1 = ed_st σ 1 i 0 v) (hlink : Cond.fieldLink own index "ExecutiveDesk" "threadCount" "I" ∈ ed_tb) (hdg : decode cc pc = .ok (.putfield index, 3))
    (kk : ∀ (H1 : Heap) (locs1 : List Loc), va_P D vwCl (ed_w ad ca σ1) H1 → va_D A (ed_w ad ca σ1) → va_S A s.heap H1 locs1 → W p l e R s m args below meth c H1 locs1 cells slots Q (F0 m (pc + 3) ls rest)) : W p l e R s m args below meth c H locs cells slots Q (F0 m pc ls (.int v :: .ref (ad (pDesk i)) :: rest)) := by
  subst eq
  refine va_put (D := D) (ci := 7) (C := "ExecutiveDesk") (T := T_Desk) (N := 12) (v := .int v) (ty := .int) B.1 B.2.1 B.2.2.2.2.1 iw_Desk ty_Desk tyok_Desk nm_Desk B.2.2.2.1 B.2.2.2.2.2.1 hP hD hS (pDesk i) (ed_w_Desk h) rfl 8 (by decide) (B.2.2.2.2.1 _ hlink) (fun _ q => q) rfl (by decide +kernel) rfl rfl (Nat.le_of_ble_eq_true rfl) hdg (fun H1 locs1 hP1 hD1 hS1 => ?_)
  have q0 := ed_w_set (ad := ad) (ca := ca) (σ := σ) (σ2 := ed_st σ 1 i 0 v) (ed_lt_Desk h) (ed_ct_Desk h) (fun z hz => ed_ct_st hz)
  have q1 : cDesk ad ca (ed_st σ 1 i 0 v) i = .inr (7, List.set [.ref (ad (pAProc 0)), .ref (ad (pSched 0)), .ref (ad (pAThr 0)), .ref (ad (pAObj 0)), .ref (ad (pATra 0)), .ref (ad (pRow 32)), .ref (ad (pRow 33)), .int (σ 0 i 0), .int (σ 1 i 0), .int (σ 2 i 0), .int (σ 3 i 0), .int (σ 4 i 0)] 8 (.int v)) := by simp [cDesk, ed_st]
  rw [q1] at q0
  rw [q0] at hP1 hD1
  exact kk H1 locs1 hP1 hD1 hS1
theorem gf_Desk_overCount (B : ed_B p s m args meth c cc own nL D ca) (hP : va_P D vwCl (ed_w ad ca σ) H) (h : i < 1) (hlink : Cond.fieldLink own index "ExecutiveDesk" "overCount" "I" ∈ ed_tb) (hdg : decode cc pc = .ok (.getfield index, 3))
    (kk : W p l e R s m args below meth c H locs cells slots Q (F0 m (pc + 3) ls (.int (σ 2 i 0) :: rest))) : W p l e R s m args below meth c H locs cells slots Q (F0 m pc ls (.ref (ad (pDesk i)) :: rest)) :=
  va_get (D := D) (ci := 7) (C := "ExecutiveDesk") (T := T_Desk) (N := 12) B.1 B.2.1 B.2.2.2.2.1 iw_Desk B.2.2.2.1 B.2.2.2.2.2.1 hP (pDesk i) (ed_w_Desk h) rfl 9 (by decide) (B.2.2.2.2.1 _ hlink) (fun _ q => q) rfl hdg kk
theorem pf_Desk_overCount (B : ed_B p s m args meth c cc own nL D ca) (hP : va_P D vwCl (ed_w ad ca σ) H) (hD : va_D A (ed_w ad ca σ)) (hS : va_S A s.heap H locs) (h : i < 1) (eq : σ1 = ed_st σ 2 i 0 v) (hlink : Cond.fieldLink own index "ExecutiveDesk" "overCount" "I" ∈ ed_tb) (hdg : decode cc pc = .ok (.putfield index, 3))
    (kk : ∀ (H1 : Heap) (locs1 : List Loc), va_P D vwCl (ed_w ad ca σ1) H1 → va_D A (ed_w ad ca σ1) → va_S A s.heap H1 locs1 → W p l e R s m args below meth c H1 locs1 cells slots Q (F0 m (pc + 3) ls rest)) : W p l e R s m args below meth c H locs cells slots Q (F0 m pc ls (.int v :: .ref (ad (pDesk i)) :: rest)) := by
  subst eq
  refine va_put (D := D) (ci := 7) (C := "ExecutiveDesk") (T := T_Desk) (N := 12) (v := .int v) (ty := .int) B.1 B.2.1 B.2.2.2.2.1 iw_Desk ty_Desk tyok_Desk nm_Desk B.2.2.2.1 B.2.2.2.2.2.1 hP hD hS (pDesk i) (ed_w_Desk h) rfl 9 (by decide) (B.2.2.2.2.1 _ hlink) (fun _ q => q) rfl (by decide +kernel) rfl rfl (Nat.le_of_ble_eq_true rfl) hdg (fun H1 locs1 hP1 hD1 hS1 => ?_)
  have q0 := ed_w_set (ad := ad) (ca := ca) (σ := σ) (σ2 := ed_st σ 2 i 0 v) (ed_lt_Desk h) (ed_ct_Desk h) (fun z hz => ed_ct_st hz)
  have q1 : cDesk ad ca (ed_st σ 2 i 0 v) i = .inr (7, List.set [.ref (ad (pAProc 0)), .ref (ad (pSched 0)), .ref (ad (pAThr 0)), .ref (ad (pAObj 0)), .ref (ad (pATra 0)), .ref (ad (pRow 32)), .ref (ad (pRow 33)), .int (σ 0 i 0), .int (σ 1 i 0), .int (σ 2 i 0), .int (σ 3 i 0), .int (σ 4 i 0)] 9 (.int v)) := by simp [cDesk, ed_st]
  rw [q1] at q0
  rw [q0] at hP1 hD1
  exact kk H1 locs1 hP1 hD1 hS1
theorem gf_Desk_clock (B : ed_B p s m args meth c cc own nL D ca) (hP : va_P D vwCl (ed_w ad ca σ) H) (h : i < 1) (hlink : Cond.fieldLink own index "ExecutiveDesk" "clock" "I" ∈ ed_tb) (hdg : decode cc pc = .ok (.getfield index, 3))
    (kk : W p l e R s m args below meth c H locs cells slots Q (F0 m (pc + 3) ls (.int (σ 3 i 0) :: rest))) : W p l e R s m args below meth c H locs cells slots Q (F0 m pc ls (.ref (ad (pDesk i)) :: rest)) :=
  va_get (D := D) (ci := 7) (C := "ExecutiveDesk") (T := T_Desk) (N := 12) B.1 B.2.1 B.2.2.2.2.1 iw_Desk B.2.2.2.1 B.2.2.2.2.2.1 hP (pDesk i) (ed_w_Desk h) rfl 10 (by decide) (B.2.2.2.2.1 _ hlink) (fun _ q => q) rfl hdg kk
theorem pf_Desk_clock (B : ed_B p s m args meth c cc own nL D ca) (hP : va_P D vwCl (ed_w ad ca σ) H) (hD : va_D A (ed_w ad ca σ)) (hS : va_S A s.heap H locs) (h : i < 1) (eq : σ1 = ed_st σ 3 i 0 v) (hlink : Cond.fieldLink own index "ExecutiveDesk" "clock" "I" ∈ ed_tb) (hdg : decode cc pc = .ok (.putfield index, 3))
    (kk : ∀ (H1 : Heap) (locs1 : List Loc), va_P D vwCl (ed_w ad ca σ1) H1 → va_D A (ed_w ad ca σ1) → va_S A s.heap H1 locs1 → W p l e R s m args below meth c H1 locs1 cells slots Q (F0 m (pc + 3) ls rest)) : W p l e R s m args below meth c H locs cells slots Q (F0 m pc ls (.int v :: .ref (ad (pDesk i)) :: rest)) := by
  subst eq
  refine va_put (D := D) (ci := 7) (C := "ExecutiveDesk") (T := T_Desk) (N := 12) (v := .int v) (ty := .int) B.1 B.2.1 B.2.2.2.2.1 iw_Desk ty_Desk tyok_Desk nm_Desk B.2.2.2.1 B.2.2.2.2.2.1 hP hD hS (pDesk i) (ed_w_Desk h) rfl 10 (by decide) (B.2.2.2.2.1 _ hlink) (fun _ q => q) rfl (by decide +kernel) rfl rfl (Nat.le_of_ble_eq_true rfl) hdg (fun H1 locs1 hP1 hD1 hS1 => ?_)
  have q0 := ed_w_set (ad := ad) (ca := ca) (σ := σ) (σ2 := ed_st σ 3 i 0 v) (ed_lt_Desk h) (ed_ct_Desk h) (fun z hz => ed_ct_st hz)
  have q1 : cDesk ad ca (ed_st σ 3 i 0 v) i = .inr (7, List.set [.ref (ad (pAProc 0)), .ref (ad (pSched 0)), .ref (ad (pAThr 0)), .ref (ad (pAObj 0)), .ref (ad (pATra 0)), .ref (ad (pRow 32)), .ref (ad (pRow 33)), .int (σ 0 i 0), .int (σ 1 i 0), .int (σ 2 i 0), .int (σ 3 i 0), .int (σ 4 i 0)] 10 (.int v)) := by simp [cDesk, ed_st]
  rw [q1] at q0
  rw [q0] at hP1 hD1
  exact kk H1 locs1 hP1 hD1 hS1
theorem gf_Desk_currentLevel (B : ed_B p s m args meth c cc own nL D ca) (hP : va_P D vwCl (ed_w ad ca σ) H) (h : i < 1) (hlink : Cond.fieldLink own index "ExecutiveDesk" "currentLevel" "I" ∈ ed_tb) (hdg : decode cc pc = .ok (.getfield index, 3))
    (kk : W p l e R s m args below meth c H locs cells slots Q (F0 m (pc + 3) ls (.int (σ 4 i 0) :: rest))) : W p l e R s m args below meth c H locs cells slots Q (F0 m pc ls (.ref (ad (pDesk i)) :: rest)) :=
  va_get (D := D) (ci := 7) (C := "ExecutiveDesk") (T := T_Desk) (N := 12) B.1 B.2.1 B.2.2.2.2.1 iw_Desk B.2.2.2.1 B.2.2.2.2.2.1 hP (pDesk i) (ed_w_Desk h) rfl 11 (by decide) (B.2.2.2.2.1 _ hlink) (fun _ q => q) rfl hdg kk
theorem pf_Desk_currentLevel (B : ed_B p s m args meth c cc own nL D ca) (hP : va_P D vwCl (ed_w ad ca σ) H) (hD : va_D A (ed_w ad ca σ)) (hS : va_S A s.heap H locs) (h : i < 1) (eq : σ1 = ed_st σ 4 i 0 v) (hlink : Cond.fieldLink own index "ExecutiveDesk" "currentLevel" "I" ∈ ed_tb) (hdg : decode cc pc = .ok (.putfield index, 3))
    (kk : ∀ (H1 : Heap) (locs1 : List Loc), va_P D vwCl (ed_w ad ca σ1) H1 → va_D A (ed_w ad ca σ1) → va_S A s.heap H1 locs1 → W p l e R s m args below meth c H1 locs1 cells slots Q (F0 m (pc + 3) ls rest)) : W p l e R s m args below meth c H locs cells slots Q (F0 m pc ls (.int v :: .ref (ad (pDesk i)) :: rest)) := by
  subst eq
  refine va_put (D := D) (ci := 7) (C := "ExecutiveDesk") (T := T_Desk) (N := 12) (v := .int v) (ty := .int) B.1 B.2.1 B.2.2.2.2.1 iw_Desk ty_Desk tyok_Desk nm_Desk B.2.2.2.1 B.2.2.2.2.2.1 hP hD hS (pDesk i) (ed_w_Desk h) rfl 11 (by decide) (B.2.2.2.2.1 _ hlink) (fun _ q => q) rfl (by decide +kernel) rfl rfl (Nat.le_of_ble_eq_true rfl) hdg (fun H1 locs1 hP1 hD1 hS1 => ?_)
  have q0 := ed_w_set (ad := ad) (ca := ca) (σ := σ) (σ2 := ed_st σ 4 i 0 v) (ed_lt_Desk h) (ed_ct_Desk h) (fun z hz => ed_ct_st hz)
  have q1 : cDesk ad ca (ed_st σ 4 i 0 v) i = .inr (7, List.set [.ref (ad (pAProc 0)), .ref (ad (pSched 0)), .ref (ad (pAThr 0)), .ref (ad (pAObj 0)), .ref (ad (pATra 0)), .ref (ad (pRow 32)), .ref (ad (pRow 33)), .int (σ 0 i 0), .int (σ 1 i 0), .int (σ 2 i 0), .int (σ 3 i 0), .int (σ 4 i 0)] 11 (.int v)) := by simp [cDesk, ed_st]
  rw [q1] at q0
  rw [q0] at hP1 hD1
  exact kk H1 locs1 hP1 hD1 hS1
theorem ed_rc_Desk (B : ed_B p s m args meth c cc own nL D ca) (hP : va_P D vwCl (ed_w ad ca σ) H) (h : i < 1) : ∃ cell : Cell, H[ad (pDesk i)]? = some cell ∧ cell.vm.isStatics = false ∧ s.vm.findClass "ExecutiveDesk" = some cell.cls := va_recv B.2.2.2.2.2.1 hP (ci := 7) (q0 := pDesk i) rfl (ed_w_Desk h)
theorem gf_Sched_threads (B : ed_B p s m args meth c cc own nL D ca) (hP : va_P D vwCl (ed_w ad ca σ) H) (h : i < 1) (hlink : Cond.fieldLink own index "ExecutiveDesk$Scheduler" "threads" "[LExecutiveDesk$ThreadState;" ∈ ed_tb) (hdg : decode cc pc = .ok (.getfield index, 3))
    (kk : W p l e R s m args below meth c H locs cells slots Q (F0 m (pc + 3) ls (.ref (ad (pAThr 0)) :: rest))) : W p l e R s m args below meth c H locs cells slots Q (F0 m pc ls (.ref (ad (pSched i)) :: rest)) :=
  va_get (D := D) (ci := 4) (C := "ExecutiveDesk$Scheduler") (T := T_Sched) (N := 5) B.1 B.2.1 B.2.2.2.2.1 iw_Sched B.2.2.2.1 B.2.2.2.2.2.1 hP (pSched i) (ed_w_Sched h) rfl 0 (by decide) (B.2.2.2.2.1 _ hlink) (fun _ q => q) rfl hdg kk
theorem gf_Sched_ready (B : ed_B p s m args meth c cc own nL D ca) (hP : va_P D vwCl (ed_w ad ca σ) H) (h : i < 1) (hlink : Cond.fieldLink own index "ExecutiveDesk$Scheduler" "ready" "[LExecutiveDesk$Row;" ∈ ed_tb) (hdg : decode cc pc = .ok (.getfield index, 3))
    (kk : W p l e R s m args below meth c H locs cells slots Q (F0 m (pc + 3) ls (.ref (ad (pARdy 0)) :: rest))) : W p l e R s m args below meth c H locs cells slots Q (F0 m pc ls (.ref (ad (pSched i)) :: rest)) :=
  va_get (D := D) (ci := 4) (C := "ExecutiveDesk$Scheduler") (T := T_Sched) (N := 5) B.1 B.2.1 B.2.2.2.2.1 iw_Sched B.2.2.2.1 B.2.2.2.2.2.1 hP (pSched i) (ed_w_Sched h) rfl 1 (by decide) (B.2.2.2.2.1 _ hlink) (fun _ q => q) rfl hdg kk
theorem gf_Sched_running (B : ed_B p s m args meth c cc own nL D ca) (hP : va_P D vwCl (ed_w ad ca σ) H) (h : i < 1) (hlink : Cond.fieldLink own index "ExecutiveDesk$Scheduler" "running" "I" ∈ ed_tb) (hdg : decode cc pc = .ok (.getfield index, 3))
    (kk : W p l e R s m args below meth c H locs cells slots Q (F0 m (pc + 3) ls (.int (σ 5 i 0) :: rest))) : W p l e R s m args below meth c H locs cells slots Q (F0 m pc ls (.ref (ad (pSched i)) :: rest)) :=
  va_get (D := D) (ci := 4) (C := "ExecutiveDesk$Scheduler") (T := T_Sched) (N := 5) B.1 B.2.1 B.2.2.2.2.1 iw_Sched B.2.2.2.1 B.2.2.2.2.2.1 hP (pSched i) (ed_w_Sched h) rfl 2 (by decide) (B.2.2.2.2.1 _ hlink) (fun _ q => q) rfl hdg kk
theorem pf_Sched_running (B : ed_B p s m args meth c cc own nL D ca) (hP : va_P D vwCl (ed_w ad ca σ) H) (hD : va_D A (ed_w ad ca σ)) (hS : va_S A s.heap H locs) (h : i < 1) (eq : σ1 = ed_st σ 5 i 0 v) (hlink : Cond.fieldLink own index "ExecutiveDesk$Scheduler" "running" "I" ∈ ed_tb) (hdg : decode cc pc = .ok (.putfield index, 3))
    (kk : ∀ (H1 : Heap) (locs1 : List Loc), va_P D vwCl (ed_w ad ca σ1) H1 → va_D A (ed_w ad ca σ1) → va_S A s.heap H1 locs1 → W p l e R s m args below meth c H1 locs1 cells slots Q (F0 m (pc + 3) ls rest)) : W p l e R s m args below meth c H locs cells slots Q (F0 m pc ls (.int v :: .ref (ad (pSched i)) :: rest)) := by
  subst eq
  refine va_put (D := D) (ci := 4) (C := "ExecutiveDesk$Scheduler") (T := T_Sched) (N := 5) (v := .int v) (ty := .int) B.1 B.2.1 B.2.2.2.2.1 iw_Sched ty_Sched tyok_Sched nm_Sched B.2.2.2.1 B.2.2.2.2.2.1 hP hD hS (pSched i) (ed_w_Sched h) rfl 2 (by decide) (B.2.2.2.2.1 _ hlink) (fun _ q => q) rfl (by decide +kernel) rfl rfl (Nat.le_of_ble_eq_true rfl) hdg (fun H1 locs1 hP1 hD1 hS1 => ?_)
  have q0 := ed_w_set (ad := ad) (ca := ca) (σ := σ) (σ2 := ed_st σ 5 i 0 v) (ed_lt_Sched h) (ed_ct_Sched h) (fun z hz => ed_ct_st hz)
  have q1 : cSched ad ca (ed_st σ 5 i 0 v) i = .inr (4, List.set [.ref (ad (pAThr 0)), .ref (ad (pARdy 0)), .int (σ 5 i 0), .int (σ 6 i 0), .int (σ 7 i 0)] 2 (.int v)) := by simp [cSched, ed_st]
  rw [q1] at q0
  rw [q0] at hP1 hD1
  exact kk H1 locs1 hP1 hD1 hS1
theorem gf_Sched_lastRan (B : ed_B p s m args meth c cc own nL D ca) (hP : va_P D vwCl (ed_w ad ca σ) H) (h : i < 1) (hlink : Cond.fieldLink own index "ExecutiveDesk$Scheduler" "lastRan" "I" ∈ ed_tb) (hdg : decode cc pc = .ok (.getfield index, 3))
    (kk : W p l e R s m args below meth c H locs cells slots Q (F0 m (pc + 3) ls (.int (σ 6 i 0) :: rest))) : W p l e R s m args below meth c H locs cells slots Q (F0 m pc ls (.ref (ad (pSched i)) :: rest)) :=
  va_get (D := D) (ci := 4) (C := "ExecutiveDesk$Scheduler") (T := T_Sched) (N := 5) B.1 B.2.1 B.2.2.2.2.1 iw_Sched B.2.2.2.1 B.2.2.2.2.2.1 hP (pSched i) (ed_w_Sched h) rfl 3 (by decide) (B.2.2.2.2.1 _ hlink) (fun _ q => q) rfl hdg kk
theorem pf_Sched_lastRan (B : ed_B p s m args meth c cc own nL D ca) (hP : va_P D vwCl (ed_w ad ca σ) H) (hD : va_D A (ed_w ad ca σ)) (hS : va_S A s.heap H locs) (h : i < 1) (eq : σ1 = ed_st σ 6 i 0 v) (hlink : Cond.fieldLink own index "ExecutiveDesk$Scheduler" "lastRan" "I" ∈ ed_tb) (hdg : decode cc pc = .ok (.putfield index, 3))
    (kk : ∀ (H1 : Heap) (locs1 : List Loc), va_P D vwCl (ed_w ad ca σ1) H1 → va_D A (ed_w ad ca σ1) → va_S A s.heap H1 locs1 → W p l e R s m args below meth c H1 locs1 cells slots Q (F0 m (pc + 3) ls rest)) : W p l e R s m args below meth c H locs cells slots Q (F0 m pc ls (.int v :: .ref (ad (pSched i)) :: rest)) := by
  subst eq
  refine va_put (D := D) (ci := 4) (C := "ExecutiveDesk$Scheduler") (T := T_Sched) (N := 5) (v := .int v) (ty := .int) B.1 B.2.1 B.2.2.2.2.1 iw_Sched ty_Sched tyok_Sched nm_Sched B.2.2.2.1 B.2.2.2.2.2.1 hP hD hS (pSched i) (ed_w_Sched h) rfl 3 (by decide) (B.2.2.2.2.1 _ hlink) (fun _ q => q) rfl (by decide +kernel) rfl rfl (Nat.le_of_ble_eq_true rfl) hdg (fun H1 locs1 hP1 hD1 hS1 => ?_)
  have q0 := ed_w_set (ad := ad) (ca := ca) (σ := σ) (σ2 := ed_st σ 6 i 0 v) (ed_lt_Sched h) (ed_ct_Sched h) (fun z hz => ed_ct_st hz)
  have q1 : cSched ad ca (ed_st σ 6 i 0 v) i = .inr (4, List.set [.ref (ad (pAThr 0)), .ref (ad (pARdy 0)), .int (σ 5 i 0), .int (σ 6 i 0), .int (σ 7 i 0)] 3 (.int v)) := by simp [cSched, ed_st]
  rw [q1] at q0
  rw [q0] at hP1 hD1
  exact kk H1 locs1 hP1 hD1 hS1
theorem gf_Sched_switches (B : ed_B p s m args meth c cc own nL D ca) (hP : va_P D vwCl (ed_w ad ca σ) H) (h : i < 1) (hlink : Cond.fieldLink own index "ExecutiveDesk$Scheduler" "switches" "I" ∈ ed_tb) (hdg : decode cc pc = .ok (.getfield index, 3))
    (kk : W p l e R s m args below meth c H locs cells slots Q (F0 m (pc + 3) ls (.int (σ 7 i 0) :: rest))) : W p l e R s m args below meth c H locs cells slots Q (F0 m pc ls (.ref (ad (pSched i)) :: rest)) :=
  va_get (D := D) (ci := 4) (C := "ExecutiveDesk$Scheduler") (T := T_Sched) (N := 5) B.1 B.2.1 B.2.2.2.2.1 iw_Sched B.2.2.2.1 B.2.2.2.2.2.1 hP (pSched i) (ed_w_Sched h) rfl 4 (by decide) (B.2.2.2.2.1 _ hlink) (fun _ q => q) rfl hdg kk
theorem pf_Sched_switches (B : ed_B p s m args meth c cc own nL D ca) (hP : va_P D vwCl (ed_w ad ca σ) H) (hD : va_D A (ed_w ad ca σ)) (hS : va_S A s.heap H locs) (h : i < 1) (eq : σ1 = ed_st σ 7 i 0 v) (hlink : Cond.fieldLink own index "ExecutiveDesk$Scheduler" "switches" "I" ∈ ed_tb) (hdg : decode cc pc = .ok (.putfield index, 3))
    (kk : ∀ (H1 : Heap) (locs1 : List Loc), va_P D vwCl (ed_w ad ca σ1) H1 → va_D A (ed_w ad ca σ1) → va_S A s.heap H1 locs1 → W p l e R s m args below meth c H1 locs1 cells slots Q (F0 m (pc + 3) ls rest)) : W p l e R s m args below meth c H locs cells slots Q (F0 m pc ls (.int v :: .ref (ad (pSched i)) :: rest)) := by
  subst eq
  refine va_put (D := D) (ci := 4) (C := "ExecutiveDesk$Scheduler") (T := T_Sched) (N := 5) (v := .int v) (ty := .int) B.1 B.2.1 B.2.2.2.2.1 iw_Sched ty_Sched tyok_Sched nm_Sched B.2.2.2.1 B.2.2.2.2.2.1 hP hD hS (pSched i) (ed_w_Sched h) rfl 4 (by decide) (B.2.2.2.2.1 _ hlink) (fun _ q => q) rfl (by decide +kernel) rfl rfl (Nat.le_of_ble_eq_true rfl) hdg (fun H1 locs1 hP1 hD1 hS1 => ?_)
  have q0 := ed_w_set (ad := ad) (ca := ca) (σ := σ) (σ2 := ed_st σ 7 i 0 v) (ed_lt_Sched h) (ed_ct_Sched h) (fun z hz => ed_ct_st hz)
  have q1 : cSched ad ca (ed_st σ 7 i 0 v) i = .inr (4, List.set [.ref (ad (pAThr 0)), .ref (ad (pARdy 0)), .int (σ 5 i 0), .int (σ 6 i 0), .int (σ 7 i 0)] 4 (.int v)) := by simp [cSched, ed_st]
  rw [q1] at q0
  rw [q0] at hP1 hD1
  exact kk H1 locs1 hP1 hD1 hS1
theorem ed_rc_Sched (B : ed_B p s m args meth c cc own nL D ca) (hP : va_P D vwCl (ed_w ad ca σ) H) (h : i < 1) : ∃ cell : Cell, H[ad (pSched i)]? = some cell ∧ cell.vm.isStatics = false ∧ s.vm.findClass "ExecutiveDesk$Scheduler" = some cell.cls := va_recv B.2.2.2.2.2.1 hP (ci := 4) (q0 := pSched i) rfl (ed_w_Sched h)
theorem gf_Thr_calls (B : ed_B p s m args meth c cc own nL D ca) (hP : va_P D vwCl (ed_w ad ca σ) H) (h : i < 8) (hlink : Cond.fieldLink own index "ExecutiveDesk$ThreadState" "calls" "LExecutiveDesk$Row;" ∈ ed_tb) (hdg : decode cc pc = .ok (.getfield index, 3))
    (kk : W p l e R s m args below meth c H locs cells slots Q (F0 m (pc + 3) ls (.ref (ad (pRow i)) :: rest))) : W p l e R s m args below meth c H locs cells slots Q (F0 m pc ls (.ref (ad (pThr i)) :: rest)) :=
  va_get (D := D) (ci := 5) (C := "ExecutiveDesk$ThreadState") (T := T_Thr) (N := 12) B.1 B.2.1 B.2.2.2.2.1 iw_Thr B.2.2.2.1 B.2.2.2.2.2.1 hP (pThr i) (ed_w_Thr h) rfl 0 (by decide) (B.2.2.2.2.1 _ hlink) (fun _ q => q) rfl hdg kk
theorem gf_Thr_places (B : ed_B p s m args meth c cc own nL D ca) (hP : va_P D vwCl (ed_w ad ca σ) H) (h : i < 8) (hlink : Cond.fieldLink own index "ExecutiveDesk$ThreadState" "places" "[I" ∈ ed_tb) (hdg : decode cc pc = .ok (.getfield index, 3))
    (kk : W p l e R s m args below meth c H locs cells slots Q (F0 m (pc + 3) ls (.ref (ad (pPlc i)) :: rest))) : W p l e R s m args below meth c H locs cells slots Q (F0 m pc ls (.ref (ad (pThr i)) :: rest)) :=
  va_get (D := D) (ci := 5) (C := "ExecutiveDesk$ThreadState") (T := T_Thr) (N := 12) B.1 B.2.1 B.2.2.2.2.1 iw_Thr B.2.2.2.1 B.2.2.2.2.2.1 hP (pThr i) (ed_w_Thr h) rfl 1 (by decide) (B.2.2.2.2.1 _ hlink) (fun _ q => q) rfl hdg kk
theorem gf_Thr_process (B : ed_B p s m args meth c cc own nL D ca) (hP : va_P D vwCl (ed_w ad ca σ) H) (h : i < 8) (hlink : Cond.fieldLink own index "ExecutiveDesk$ThreadState" "process" "I" ∈ ed_tb) (hdg : decode cc pc = .ok (.getfield index, 3))
    (kk : W p l e R s m args below meth c H locs cells slots Q (F0 m (pc + 3) ls (.int (σ 8 i 0) :: rest))) : W p l e R s m args below meth c H locs cells slots Q (F0 m pc ls (.ref (ad (pThr i)) :: rest)) :=
  va_get (D := D) (ci := 5) (C := "ExecutiveDesk$ThreadState") (T := T_Thr) (N := 12) B.1 B.2.1 B.2.2.2.2.1 iw_Thr B.2.2.2.1 B.2.2.2.2.2.1 hP (pThr i) (ed_w_Thr h) rfl 2 (by decide) (B.2.2.2.2.1 _ hlink) (fun _ q => q) rfl hdg kk
theorem pf_Thr_process (B : ed_B p s m args meth c cc own nL D ca) (hP : va_P D vwCl (ed_w ad ca σ) H) (hD : va_D A (ed_w ad ca σ)) (hS : va_S A s.heap H locs) (h : i < 8) (eq : σ1 = ed_st σ 8 i 0 v) (hlink : Cond.fieldLink own index "ExecutiveDesk$ThreadState" "process" "I" ∈ ed_tb) (hdg : decode cc pc = .ok (.putfield index, 3))
    (kk : ∀ (H1 : Heap) (locs1 : List Loc), va_P D vwCl (ed_w ad ca σ1) H1 → va_D A (ed_w ad ca σ1) → va_S A s.heap H1 locs1 → W p l e R s m args below meth c H1 locs1 cells slots Q (F0 m (pc + 3) ls rest)) : W p l e R s m args below meth c H locs cells slots Q (F0 m pc ls (.int v :: .ref (ad (pThr i)) :: rest)) := by
  subst eq
  refine va_put (D := D) (ci := 5) (C := "ExecutiveDesk$ThreadState") (T := T_Thr) (N := 12) (v := .int v) (ty := .int) B.1 B.2.1 B.2.2.2.2.1 iw_Thr ty_Thr tyok_Thr nm_Thr B.2.2.2.1 B.2.2.2.2.2.1 hP hD hS (pThr i) (ed_w_Thr h) rfl 2 (by decide) (B.2.2.2.2.1 _ hlink) (fun _ q => q) rfl (by decide +kernel) rfl rfl (Nat.le_of_ble_eq_true rfl) hdg (fun H1 locs1 hP1 hD1 hS1 => ?_)
  have q0 := ed_w_set (ad := ad) (ca := ca) (σ := σ) (σ2 := ed_st σ 8 i 0 v) (ed_lt_Thr h) (ed_ct_Thr h) (fun z hz => ed_ct_st hz)
  have q1 : cThr ad ca (ed_st σ 8 i 0 v) i = .inr (5, List.set [.ref (ad (pRow i)), .ref (ad (pPlc i)), .int (σ 8 i 0), .int (σ 9 i 0), .int (σ 10 i 0), .int (σ 11 i 0), .int (σ 12 i 0), .int (σ 13 i 0), .int (σ 14 i 0), .int (σ 15 i 0), .int (σ 16 i 0), .int (σ 17 i 0)] 2 (.int v)) := by simp [cThr, ed_st]
  rw [q1] at q0
  rw [q0] at hP1 hD1
  exact kk H1 locs1 hP1 hD1 hS1
theorem gf_Thr_priority (B : ed_B p s m args meth c cc own nL D ca) (hP : va_P D vwCl (ed_w ad ca σ) H) (h : i < 8) (hlink : Cond.fieldLink own index "ExecutiveDesk$ThreadState" "priority" "I" ∈ ed_tb) (hdg : decode cc pc = .ok (.getfield index, 3))
    (kk : W p l e R s m args below meth c H locs cells slots Q (F0 m (pc + 3) ls (.int (σ 9 i 0) :: rest))) : W p l e R s m args below meth c H locs cells slots Q (F0 m pc ls (.ref (ad (pThr i)) :: rest)) :=
  va_get (D := D) (ci := 5) (C := "ExecutiveDesk$ThreadState") (T := T_Thr) (N := 12) B.1 B.2.1 B.2.2.2.2.1 iw_Thr B.2.2.2.1 B.2.2.2.2.2.1 hP (pThr i) (ed_w_Thr h) rfl 3 (by decide) (B.2.2.2.2.1 _ hlink) (fun _ q => q) rfl hdg kk
theorem pf_Thr_priority (B : ed_B p s m args meth c cc own nL D ca) (hP : va_P D vwCl (ed_w ad ca σ) H) (hD : va_D A (ed_w ad ca σ)) (hS : va_S A s.heap H locs) (h : i < 8) (eq : σ1 = ed_st σ 9 i 0 v) (hlink : Cond.fieldLink own index "ExecutiveDesk$ThreadState" "priority" "I" ∈ ed_tb) (hdg : decode cc pc = .ok (.putfield index, 3))
    (kk : ∀ (H1 : Heap) (locs1 : List Loc), va_P D vwCl (ed_w ad ca σ1) H1 → va_D A (ed_w ad ca σ1) → va_S A s.heap H1 locs1 → W p l e R s m args below meth c H1 locs1 cells slots Q (F0 m (pc + 3) ls rest)) : W p l e R s m args below meth c H locs cells slots Q (F0 m pc ls (.int v :: .ref (ad (pThr i)) :: rest)) := by
  subst eq
  refine va_put (D := D) (ci := 5) (C := "ExecutiveDesk$ThreadState") (T := T_Thr) (N := 12) (v := .int v) (ty := .int) B.1 B.2.1 B.2.2.2.2.1 iw_Thr ty_Thr tyok_Thr nm_Thr B.2.2.2.1 B.2.2.2.2.2.1 hP hD hS (pThr i) (ed_w_Thr h) rfl 3 (by decide) (B.2.2.2.2.1 _ hlink) (fun _ q => q) rfl (by decide +kernel) rfl rfl (Nat.le_of_ble_eq_true rfl) hdg (fun H1 locs1 hP1 hD1 hS1 => ?_)
  have q0 := ed_w_set (ad := ad) (ca := ca) (σ := σ) (σ2 := ed_st σ 9 i 0 v) (ed_lt_Thr h) (ed_ct_Thr h) (fun z hz => ed_ct_st hz)
  have q1 : cThr ad ca (ed_st σ 9 i 0 v) i = .inr (5, List.set [.ref (ad (pRow i)), .ref (ad (pPlc i)), .int (σ 8 i 0), .int (σ 9 i 0), .int (σ 10 i 0), .int (σ 11 i 0), .int (σ 12 i 0), .int (σ 13 i 0), .int (σ 14 i 0), .int (σ 15 i 0), .int (σ 16 i 0), .int (σ 17 i 0)] 3 (.int v)) := by simp [cThr, ed_st]
  rw [q1] at q0
  rw [q0] at hP1 hD1
  exact kk H1 locs1 hP1 hD1 hS1
theorem gf_Thr_state (B : ed_B p s m args meth c cc own nL D ca) (hP : va_P D vwCl (ed_w ad ca σ) H) (h : i < 8) (hlink : Cond.fieldLink own index "ExecutiveDesk$ThreadState" "state" "I" ∈ ed_tb) (hdg : decode cc pc = .ok (.getfield index, 3))
    (kk : W p l e R s m args below meth c H locs cells slots Q (F0 m (pc + 3) ls (.int (σ 10 i 0) :: rest))) : W p l e R s m args below meth c H locs cells slots Q (F0 m pc ls (.ref (ad (pThr i)) :: rest)) :=
  va_get (D := D) (ci := 5) (C := "ExecutiveDesk$ThreadState") (T := T_Thr) (N := 12) B.1 B.2.1 B.2.2.2.2.1 iw_Thr B.2.2.2.1 B.2.2.2.2.2.1 hP (pThr i) (ed_w_Thr h) rfl 4 (by decide) (B.2.2.2.2.1 _ hlink) (fun _ q => q) rfl hdg kk
theorem pf_Thr_state (B : ed_B p s m args meth c cc own nL D ca) (hP : va_P D vwCl (ed_w ad ca σ) H) (hD : va_D A (ed_w ad ca σ)) (hS : va_S A s.heap H locs) (h : i < 8) (eq : σ1 = ed_st σ 10 i 0 v) (hlink : Cond.fieldLink own index "ExecutiveDesk$ThreadState" "state" "I" ∈ ed_tb) (hdg : decode cc pc = .ok (.putfield index, 3))
    (kk : ∀ (H1 : Heap) (locs1 : List Loc), va_P D vwCl (ed_w ad ca σ1) H1 → va_D A (ed_w ad ca σ1) → va_S A s.heap H1 locs1 → W p l e R s m args below meth c H1 locs1 cells slots Q (F0 m (pc + 3) ls rest)) : W p l e R s m args below meth c H locs cells slots Q (F0 m pc ls (.int v :: .ref (ad (pThr i)) :: rest)) := by
  subst eq
  refine va_put (D := D) (ci := 5) (C := "ExecutiveDesk$ThreadState") (T := T_Thr) (N := 12) (v := .int v) (ty := .int) B.1 B.2.1 B.2.2.2.2.1 iw_Thr ty_Thr tyok_Thr nm_Thr B.2.2.2.1 B.2.2.2.2.2.1 hP hD hS (pThr i) (ed_w_Thr h) rfl 4 (by decide) (B.2.2.2.2.1 _ hlink) (fun _ q => q) rfl (by decide +kernel) rfl rfl (Nat.le_of_ble_eq_true rfl) hdg (fun H1 locs1 hP1 hD1 hS1 => ?_)
  have q0 := ed_w_set (ad := ad) (ca := ca) (σ := σ) (σ2 := ed_st σ 10 i 0 v) (ed_lt_Thr h) (ed_ct_Thr h) (fun z hz => ed_ct_st hz)
  have q1 : cThr ad ca (ed_st σ 10 i 0 v) i = .inr (5, List.set [.ref (ad (pRow i)), .ref (ad (pPlc i)), .int (σ 8 i 0), .int (σ 9 i 0), .int (σ 10 i 0), .int (σ 11 i 0), .int (σ 12 i 0), .int (σ 13 i 0), .int (σ 14 i 0), .int (σ 15 i 0), .int (σ 16 i 0), .int (σ 17 i 0)] 4 (.int v)) := by simp [cThr, ed_st]
  rw [q1] at q0
  rw [q0] at hP1 hD1
  exact kk H1 locs1 hP1 hD1 hS1
theorem gf_Thr_result (B : ed_B p s m args meth c cc own nL D ca) (hP : va_P D vwCl (ed_w ad ca σ) H) (h : i < 8) (hlink : Cond.fieldLink own index "ExecutiveDesk$ThreadState" "result" "I" ∈ ed_tb) (hdg : decode cc pc = .ok (.getfield index, 3))
    (kk : W p l e R s m args below meth c H locs cells slots Q (F0 m (pc + 3) ls (.int (σ 11 i 0) :: rest))) : W p l e R s m args below meth c H locs cells slots Q (F0 m pc ls (.ref (ad (pThr i)) :: rest)) :=
  va_get (D := D) (ci := 5) (C := "ExecutiveDesk$ThreadState") (T := T_Thr) (N := 12) B.1 B.2.1 B.2.2.2.2.1 iw_Thr B.2.2.2.1 B.2.2.2.2.2.1 hP (pThr i) (ed_w_Thr h) rfl 5 (by decide) (B.2.2.2.2.1 _ hlink) (fun _ q => q) rfl hdg kk
theorem pf_Thr_result (B : ed_B p s m args meth c cc own nL D ca) (hP : va_P D vwCl (ed_w ad ca σ) H) (hD : va_D A (ed_w ad ca σ)) (hS : va_S A s.heap H locs) (h : i < 8) (eq : σ1 = ed_st σ 11 i 0 v) (hlink : Cond.fieldLink own index "ExecutiveDesk$ThreadState" "result" "I" ∈ ed_tb) (hdg : decode cc pc = .ok (.putfield index, 3))
    (kk : ∀ (H1 : Heap) (locs1 : List Loc), va_P D vwCl (ed_w ad ca σ1) H1 → va_D A (ed_w ad ca σ1) → va_S A s.heap H1 locs1 → W p l e R s m args below meth c H1 locs1 cells slots Q (F0 m (pc + 3) ls rest)) : W p l e R s m args below meth c H locs cells slots Q (F0 m pc ls (.int v :: .ref (ad (pThr i)) :: rest)) := by
  subst eq
  refine va_put (D := D) (ci := 5) (C := "ExecutiveDesk$ThreadState") (T := T_Thr) (N := 12) (v := .int v) (ty := .int) B.1 B.2.1 B.2.2.2.2.1 iw_Thr ty_Thr tyok_Thr nm_Thr B.2.2.2.1 B.2.2.2.2.2.1 hP hD hS (pThr i) (ed_w_Thr h) rfl 5 (by decide) (B.2.2.2.2.1 _ hlink) (fun _ q => q) rfl (by decide +kernel) rfl rfl (Nat.le_of_ble_eq_true rfl) hdg (fun H1 locs1 hP1 hD1 hS1 => ?_)
  have q0 := ed_w_set (ad := ad) (ca := ca) (σ := σ) (σ2 := ed_st σ 11 i 0 v) (ed_lt_Thr h) (ed_ct_Thr h) (fun z hz => ed_ct_st hz)
  have q1 : cThr ad ca (ed_st σ 11 i 0 v) i = .inr (5, List.set [.ref (ad (pRow i)), .ref (ad (pPlc i)), .int (σ 8 i 0), .int (σ 9 i 0), .int (σ 10 i 0), .int (σ 11 i 0), .int (σ 12 i 0), .int (σ 13 i 0), .int (σ 14 i 0), .int (σ 15 i 0), .int (σ 16 i 0), .int (σ 17 i 0)] 5 (.int v)) := by simp [cThr, ed_st]
  rw [q1] at q0
  rw [q0] at hP1 hD1
  exact kk H1 locs1 hP1 hD1 hS1
theorem gf_Thr_delivered (B : ed_B p s m args meth c cc own nL D ca) (hP : va_P D vwCl (ed_w ad ca σ) H) (h : i < 8) (hlink : Cond.fieldLink own index "ExecutiveDesk$ThreadState" "delivered" "I" ∈ ed_tb) (hdg : decode cc pc = .ok (.getfield index, 3))
    (kk : W p l e R s m args below meth c H locs cells slots Q (F0 m (pc + 3) ls (.int (σ 12 i 0) :: rest))) : W p l e R s m args below meth c H locs cells slots Q (F0 m pc ls (.ref (ad (pThr i)) :: rest)) :=
  va_get (D := D) (ci := 5) (C := "ExecutiveDesk$ThreadState") (T := T_Thr) (N := 12) B.1 B.2.1 B.2.2.2.2.1 iw_Thr B.2.2.2.1 B.2.2.2.2.2.1 hP (pThr i) (ed_w_Thr h) rfl 6 (by decide) (B.2.2.2.2.1 _ hlink) (fun _ q => q) rfl hdg kk
theorem pf_Thr_delivered (B : ed_B p s m args meth c cc own nL D ca) (hP : va_P D vwCl (ed_w ad ca σ) H) (hD : va_D A (ed_w ad ca σ)) (hS : va_S A s.heap H locs) (h : i < 8) (eq : σ1 = ed_st σ 12 i 0 v) (hlink : Cond.fieldLink own index "ExecutiveDesk$ThreadState" "delivered" "I" ∈ ed_tb) (hdg : decode cc pc = .ok (.putfield index, 3))
    (kk : ∀ (H1 : Heap) (locs1 : List Loc), va_P D vwCl (ed_w ad ca σ1) H1 → va_D A (ed_w ad ca σ1) → va_S A s.heap H1 locs1 → W p l e R s m args below meth c H1 locs1 cells slots Q (F0 m (pc + 3) ls rest)) : W p l e R s m args below meth c H locs cells slots Q (F0 m pc ls (.int v :: .ref (ad (pThr i)) :: rest)) := by
  subst eq
  refine va_put (D := D) (ci := 5) (C := "ExecutiveDesk$ThreadState") (T := T_Thr) (N := 12) (v := .int v) (ty := .int) B.1 B.2.1 B.2.2.2.2.1 iw_Thr ty_Thr tyok_Thr nm_Thr B.2.2.2.1 B.2.2.2.2.2.1 hP hD hS (pThr i) (ed_w_Thr h) rfl 6 (by decide) (B.2.2.2.2.1 _ hlink) (fun _ q => q) rfl (by decide +kernel) rfl rfl (Nat.le_of_ble_eq_true rfl) hdg (fun H1 locs1 hP1 hD1 hS1 => ?_)
  have q0 := ed_w_set (ad := ad) (ca := ca) (σ := σ) (σ2 := ed_st σ 12 i 0 v) (ed_lt_Thr h) (ed_ct_Thr h) (fun z hz => ed_ct_st hz)
  have q1 : cThr ad ca (ed_st σ 12 i 0 v) i = .inr (5, List.set [.ref (ad (pRow i)), .ref (ad (pPlc i)), .int (σ 8 i 0), .int (σ 9 i 0), .int (σ 10 i 0), .int (σ 11 i 0), .int (σ 12 i 0), .int (σ 13 i 0), .int (σ 14 i 0), .int (σ 15 i 0), .int (σ 16 i 0), .int (σ 17 i 0)] 6 (.int v)) := by simp [cThr, ed_st]
  rw [q1] at q0
  rw [q0] at hP1 hD1
  exact kk H1 locs1 hP1 hD1 hS1
theorem gf_Thr_latestCall (B : ed_B p s m args meth c cc own nL D ca) (hP : va_P D vwCl (ed_w ad ca σ) H) (h : i < 8) (hlink : Cond.fieldLink own index "ExecutiveDesk$ThreadState" "latestCall" "I" ∈ ed_tb) (hdg : decode cc pc = .ok (.getfield index, 3))
    (kk : W p l e R s m args below meth c H locs cells slots Q (F0 m (pc + 3) ls (.int (σ 13 i 0) :: rest))) : W p l e R s m args below meth c H locs cells slots Q (F0 m pc ls (.ref (ad (pThr i)) :: rest)) :=
  va_get (D := D) (ci := 5) (C := "ExecutiveDesk$ThreadState") (T := T_Thr) (N := 12) B.1 B.2.1 B.2.2.2.2.1 iw_Thr B.2.2.2.1 B.2.2.2.2.2.1 hP (pThr i) (ed_w_Thr h) rfl 7 (by decide) (B.2.2.2.2.1 _ hlink) (fun _ q => q) rfl hdg kk
theorem pf_Thr_latestCall (B : ed_B p s m args meth c cc own nL D ca) (hP : va_P D vwCl (ed_w ad ca σ) H) (hD : va_D A (ed_w ad ca σ)) (hS : va_S A s.heap H locs) (h : i < 8) (eq : σ1 = ed_st σ 13 i 0 v) (hlink : Cond.fieldLink own index "ExecutiveDesk$ThreadState" "latestCall" "I" ∈ ed_tb) (hdg : decode cc pc = .ok (.putfield index, 3))
    (kk : ∀ (H1 : Heap) (locs1 : List Loc), va_P D vwCl (ed_w ad ca σ1) H1 → va_D A (ed_w ad ca σ1) → va_S A s.heap H1 locs1 → W p l e R s m args below meth c H1 locs1 cells slots Q (F0 m (pc + 3) ls rest)) : W p l e R s m args below meth c H locs cells slots Q (F0 m pc ls (.int v :: .ref (ad (pThr i)) :: rest)) := by
  subst eq
  refine va_put (D := D) (ci := 5) (C := "ExecutiveDesk$ThreadState") (T := T_Thr) (N := 12) (v := .int v) (ty := .int) B.1 B.2.1 B.2.2.2.2.1 iw_Thr ty_Thr tyok_Thr nm_Thr B.2.2.2.1 B.2.2.2.2.2.1 hP hD hS (pThr i) (ed_w_Thr h) rfl 7 (by decide) (B.2.2.2.2.1 _ hlink) (fun _ q => q) rfl (by decide +kernel) rfl rfl (Nat.le_of_ble_eq_true rfl) hdg (fun H1 locs1 hP1 hD1 hS1 => ?_)
  have q0 := ed_w_set (ad := ad) (ca := ca) (σ := σ) (σ2 := ed_st σ 13 i 0 v) (ed_lt_Thr h) (ed_ct_Thr h) (fun z hz => ed_ct_st hz)
  have q1 : cThr ad ca (ed_st σ 13 i 0 v) i = .inr (5, List.set [.ref (ad (pRow i)), .ref (ad (pPlc i)), .int (σ 8 i 0), .int (σ 9 i 0), .int (σ 10 i 0), .int (σ 11 i 0), .int (σ 12 i 0), .int (σ 13 i 0), .int (σ 14 i 0), .int (σ 15 i 0), .int (σ 16 i 0), .int (σ 17 i 0)] 7 (.int v)) := by simp [cThr, ed_st]
  rw [q1] at q0
  rw [q0] at hP1 hD1
  exact kk H1 locs1 hP1 hD1 hS1
theorem gf_Thr_used (B : ed_B p s m args meth c cc own nL D ca) (hP : va_P D vwCl (ed_w ad ca σ) H) (h : i < 8) (hlink : Cond.fieldLink own index "ExecutiveDesk$ThreadState" "used" "I" ∈ ed_tb) (hdg : decode cc pc = .ok (.getfield index, 3))
    (kk : W p l e R s m args below meth c H locs cells slots Q (F0 m (pc + 3) ls (.int (σ 14 i 0) :: rest))) : W p l e R s m args below meth c H locs cells slots Q (F0 m pc ls (.ref (ad (pThr i)) :: rest)) :=
  va_get (D := D) (ci := 5) (C := "ExecutiveDesk$ThreadState") (T := T_Thr) (N := 12) B.1 B.2.1 B.2.2.2.2.1 iw_Thr B.2.2.2.1 B.2.2.2.2.2.1 hP (pThr i) (ed_w_Thr h) rfl 8 (by decide) (B.2.2.2.2.1 _ hlink) (fun _ q => q) rfl hdg kk
theorem pf_Thr_used (B : ed_B p s m args meth c cc own nL D ca) (hP : va_P D vwCl (ed_w ad ca σ) H) (hD : va_D A (ed_w ad ca σ)) (hS : va_S A s.heap H locs) (h : i < 8) (eq : σ1 = ed_st σ 14 i 0 v) (hlink : Cond.fieldLink own index "ExecutiveDesk$ThreadState" "used" "I" ∈ ed_tb) (hdg : decode cc pc = .ok (.putfield index, 3))
    (kk : ∀ (H1 : Heap) (locs1 : List Loc), va_P D vwCl (ed_w ad ca σ1) H1 → va_D A (ed_w ad ca σ1) → va_S A s.heap H1 locs1 → W p l e R s m args below meth c H1 locs1 cells slots Q (F0 m (pc + 3) ls rest)) : W p l e R s m args below meth c H locs cells slots Q (F0 m pc ls (.int v :: .ref (ad (pThr i)) :: rest)) := by
  subst eq
  refine va_put (D := D) (ci := 5) (C := "ExecutiveDesk$ThreadState") (T := T_Thr) (N := 12) (v := .int v) (ty := .int) B.1 B.2.1 B.2.2.2.2.1 iw_Thr ty_Thr tyok_Thr nm_Thr B.2.2.2.1 B.2.2.2.2.2.1 hP hD hS (pThr i) (ed_w_Thr h) rfl 8 (by decide) (B.2.2.2.2.1 _ hlink) (fun _ q => q) rfl (by decide +kernel) rfl rfl (Nat.le_of_ble_eq_true rfl) hdg (fun H1 locs1 hP1 hD1 hS1 => ?_)
  have q0 := ed_w_set (ad := ad) (ca := ca) (σ := σ) (σ2 := ed_st σ 14 i 0 v) (ed_lt_Thr h) (ed_ct_Thr h) (fun z hz => ed_ct_st hz)
  have q1 : cThr ad ca (ed_st σ 14 i 0 v) i = .inr (5, List.set [.ref (ad (pRow i)), .ref (ad (pPlc i)), .int (σ 8 i 0), .int (σ 9 i 0), .int (σ 10 i 0), .int (σ 11 i 0), .int (σ 12 i 0), .int (σ 13 i 0), .int (σ 14 i 0), .int (σ 15 i 0), .int (σ 16 i 0), .int (σ 17 i 0)] 8 (.int v)) := by simp [cThr, ed_st]
  rw [q1] at q0
  rw [q0] at hP1 hD1
  exact kk H1 locs1 hP1 hD1 hS1
theorem gf_Thr_wantsAll (B : ed_B p s m args meth c cc own nL D ca) (hP : va_P D vwCl (ed_w ad ca σ) H) (h : i < 8) (hlink : Cond.fieldLink own index "ExecutiveDesk$ThreadState" "wantsAll" "Z" ∈ ed_tb) (hdg : decode cc pc = .ok (.getfield index, 3))
    (kk : W p l e R s m args below meth c H locs cells slots Q (F0 m (pc + 3) ls (.int (σ 15 i 0) :: rest))) : W p l e R s m args below meth c H locs cells slots Q (F0 m pc ls (.ref (ad (pThr i)) :: rest)) :=
  va_get (D := D) (ci := 5) (C := "ExecutiveDesk$ThreadState") (T := T_Thr) (N := 12) B.1 B.2.1 B.2.2.2.2.1 iw_Thr B.2.2.2.1 B.2.2.2.2.2.1 hP (pThr i) (ed_w_Thr h) rfl 9 (by decide) (B.2.2.2.2.1 _ hlink) (fun _ q => q) rfl hdg kk
theorem pf_Thr_wantsAll (B : ed_B p s m args meth c cc own nL D ca) (hP : va_P D vwCl (ed_w ad ca σ) H) (hD : va_D A (ed_w ad ca σ)) (hS : va_S A s.heap H locs) (h : i < 8) (z : v = 0 ∨ v = 1) (eq : σ1 = ed_st σ 15 i 0 v) (hlink : Cond.fieldLink own index "ExecutiveDesk$ThreadState" "wantsAll" "Z" ∈ ed_tb) (hdg : decode cc pc = .ok (.putfield index, 3))
    (kk : ∀ (H1 : Heap) (locs1 : List Loc), va_P D vwCl (ed_w ad ca σ1) H1 → va_D A (ed_w ad ca σ1) → va_S A s.heap H1 locs1 → W p l e R s m args below meth c H1 locs1 cells slots Q (F0 m (pc + 3) ls rest)) : W p l e R s m args below meth c H locs cells slots Q (F0 m pc ls (.int v :: .ref (ad (pThr i)) :: rest)) := by
  subst eq
  refine va_put (D := D) (ci := 5) (C := "ExecutiveDesk$ThreadState") (T := T_Thr) (N := 12) (v := .int v) (ty := .boolean) B.1 B.2.1 B.2.2.2.2.1 iw_Thr ty_Thr tyok_Thr nm_Thr B.2.2.2.1 B.2.2.2.2.2.1 hP hD hS (pThr i) (ed_w_Thr h) rfl 9 (by decide) (B.2.2.2.2.1 _ hlink) (fun _ q => q) rfl (by decide +kernel) (by rcases z with rfl | rfl <;> rfl) (by rcases z with rfl | rfl <;> rfl) (Nat.le_of_ble_eq_true rfl) hdg (fun H1 locs1 hP1 hD1 hS1 => ?_)
  have q0 := ed_w_set (ad := ad) (ca := ca) (σ := σ) (σ2 := ed_st σ 15 i 0 v) (ed_lt_Thr h) (ed_ct_Thr h) (fun z hz => ed_ct_st hz)
  have q1 : cThr ad ca (ed_st σ 15 i 0 v) i = .inr (5, List.set [.ref (ad (pRow i)), .ref (ad (pPlc i)), .int (σ 8 i 0), .int (σ 9 i 0), .int (σ 10 i 0), .int (σ 11 i 0), .int (σ 12 i 0), .int (σ 13 i 0), .int (σ 14 i 0), .int (σ 15 i 0), .int (σ 16 i 0), .int (σ 17 i 0)] 9 (.int v)) := by simp [cThr, ed_st]
  rw [q1] at q0
  rw [q0] at hP1 hD1
  exact kk H1 locs1 hP1 hD1 hS1
theorem gf_Thr_mayBeAlerted (B : ed_B p s m args meth c cc own nL D ca) (hP : va_P D vwCl (ed_w ad ca σ) H) (h : i < 8) (hlink : Cond.fieldLink own index "ExecutiveDesk$ThreadState" "mayBeAlerted" "Z" ∈ ed_tb) (hdg : decode cc pc = .ok (.getfield index, 3))
    (kk : W p l e R s m args below meth c H locs cells slots Q (F0 m (pc + 3) ls (.int (σ 16 i 0) :: rest))) : W p l e R s m args below meth c H locs cells slots Q (F0 m pc ls (.ref (ad (pThr i)) :: rest)) :=
  va_get (D := D) (ci := 5) (C := "ExecutiveDesk$ThreadState") (T := T_Thr) (N := 12) B.1 B.2.1 B.2.2.2.2.1 iw_Thr B.2.2.2.1 B.2.2.2.2.2.1 hP (pThr i) (ed_w_Thr h) rfl 10 (by decide) (B.2.2.2.2.1 _ hlink) (fun _ q => q) rfl hdg kk
theorem pf_Thr_mayBeAlerted (B : ed_B p s m args meth c cc own nL D ca) (hP : va_P D vwCl (ed_w ad ca σ) H) (hD : va_D A (ed_w ad ca σ)) (hS : va_S A s.heap H locs) (h : i < 8) (z : v = 0 ∨ v = 1) (eq : σ1 = ed_st σ 16 i 0 v) (hlink : Cond.fieldLink own index "ExecutiveDesk$ThreadState" "mayBeAlerted" "Z" ∈ ed_tb) (hdg : decode cc pc = .ok (.putfield index, 3))
    (kk : ∀ (H1 : Heap) (locs1 : List Loc), va_P D vwCl (ed_w ad ca σ1) H1 → va_D A (ed_w ad ca σ1) → va_S A s.heap H1 locs1 → W p l e R s m args below meth c H1 locs1 cells slots Q (F0 m (pc + 3) ls rest)) : W p l e R s m args below meth c H locs cells slots Q (F0 m pc ls (.int v :: .ref (ad (pThr i)) :: rest)) := by
  subst eq
  refine va_put (D := D) (ci := 5) (C := "ExecutiveDesk$ThreadState") (T := T_Thr) (N := 12) (v := .int v) (ty := .boolean) B.1 B.2.1 B.2.2.2.2.1 iw_Thr ty_Thr tyok_Thr nm_Thr B.2.2.2.1 B.2.2.2.2.2.1 hP hD hS (pThr i) (ed_w_Thr h) rfl 10 (by decide) (B.2.2.2.2.1 _ hlink) (fun _ q => q) rfl (by decide +kernel) (by rcases z with rfl | rfl <;> rfl) (by rcases z with rfl | rfl <;> rfl) (Nat.le_of_ble_eq_true rfl) hdg (fun H1 locs1 hP1 hD1 hS1 => ?_)
  have q0 := ed_w_set (ad := ad) (ca := ca) (σ := σ) (σ2 := ed_st σ 16 i 0 v) (ed_lt_Thr h) (ed_ct_Thr h) (fun z hz => ed_ct_st hz)
  have q1 : cThr ad ca (ed_st σ 16 i 0 v) i = .inr (5, List.set [.ref (ad (pRow i)), .ref (ad (pPlc i)), .int (σ 8 i 0), .int (σ 9 i 0), .int (σ 10 i 0), .int (σ 11 i 0), .int (σ 12 i 0), .int (σ 13 i 0), .int (σ 14 i 0), .int (σ 15 i 0), .int (σ 16 i 0), .int (σ 17 i 0)] 10 (.int v)) := by simp [cThr, ed_st]
  rw [q1] at q0
  rw [q0] at hP1 hD1
  exact kk H1 locs1 hP1 hD1 hS1
theorem gf_Thr_deadline (B : ed_B p s m args meth c cc own nL D ca) (hP : va_P D vwCl (ed_w ad ca σ) H) (h : i < 8) (hlink : Cond.fieldLink own index "ExecutiveDesk$ThreadState" "deadline" "I" ∈ ed_tb) (hdg : decode cc pc = .ok (.getfield index, 3))
    (kk : W p l e R s m args below meth c H locs cells slots Q (F0 m (pc + 3) ls (.int (σ 17 i 0) :: rest))) : W p l e R s m args below meth c H locs cells slots Q (F0 m pc ls (.ref (ad (pThr i)) :: rest)) :=
  va_get (D := D) (ci := 5) (C := "ExecutiveDesk$ThreadState") (T := T_Thr) (N := 12) B.1 B.2.1 B.2.2.2.2.1 iw_Thr B.2.2.2.1 B.2.2.2.2.2.1 hP (pThr i) (ed_w_Thr h) rfl 11 (by decide) (B.2.2.2.2.1 _ hlink) (fun _ q => q) rfl hdg kk
theorem pf_Thr_deadline (B : ed_B p s m args meth c cc own nL D ca) (hP : va_P D vwCl (ed_w ad ca σ) H) (hD : va_D A (ed_w ad ca σ)) (hS : va_S A s.heap H locs) (h : i < 8) (eq : σ1 = ed_st σ 17 i 0 v) (hlink : Cond.fieldLink own index "ExecutiveDesk$ThreadState" "deadline" "I" ∈ ed_tb) (hdg : decode cc pc = .ok (.putfield index, 3))
    (kk : ∀ (H1 : Heap) (locs1 : List Loc), va_P D vwCl (ed_w ad ca σ1) H1 → va_D A (ed_w ad ca σ1) → va_S A s.heap H1 locs1 → W p l e R s m args below meth c H1 locs1 cells slots Q (F0 m (pc + 3) ls rest)) : W p l e R s m args below meth c H locs cells slots Q (F0 m pc ls (.int v :: .ref (ad (pThr i)) :: rest)) := by
  subst eq
  refine va_put (D := D) (ci := 5) (C := "ExecutiveDesk$ThreadState") (T := T_Thr) (N := 12) (v := .int v) (ty := .int) B.1 B.2.1 B.2.2.2.2.1 iw_Thr ty_Thr tyok_Thr nm_Thr B.2.2.2.1 B.2.2.2.2.2.1 hP hD hS (pThr i) (ed_w_Thr h) rfl 11 (by decide) (B.2.2.2.2.1 _ hlink) (fun _ q => q) rfl (by decide +kernel) rfl rfl (Nat.le_of_ble_eq_true rfl) hdg (fun H1 locs1 hP1 hD1 hS1 => ?_)
  have q0 := ed_w_set (ad := ad) (ca := ca) (σ := σ) (σ2 := ed_st σ 17 i 0 v) (ed_lt_Thr h) (ed_ct_Thr h) (fun z hz => ed_ct_st hz)
  have q1 : cThr ad ca (ed_st σ 17 i 0 v) i = .inr (5, List.set [.ref (ad (pRow i)), .ref (ad (pPlc i)), .int (σ 8 i 0), .int (σ 9 i 0), .int (σ 10 i 0), .int (σ 11 i 0), .int (σ 12 i 0), .int (σ 13 i 0), .int (σ 14 i 0), .int (σ 15 i 0), .int (σ 16 i 0), .int (σ 17 i 0)] 11 (.int v)) := by simp [cThr, ed_st]
  rw [q1] at q0
  rw [q0] at hP1 hD1
  exact kk H1 locs1 hP1 hD1 hS1
theorem ed_rc_Thr (B : ed_B p s m args meth c cc own nL D ca) (hP : va_P D vwCl (ed_w ad ca σ) H) (h : i < 8) : ∃ cell : Cell, H[ad (pThr i)]? = some cell ∧ cell.vm.isStatics = false ∧ s.vm.findClass "ExecutiveDesk$ThreadState" = some cell.cls := va_recv B.2.2.2.2.2.1 hP (ci := 5) (q0 := pThr i) rfl (ed_w_Thr h)
theorem gf_Row_items (B : ed_B p s m args meth c cc own nL D ca) (hP : va_P D vwCl (ed_w ad ca σ) H) (h : i < 34) (hlink : Cond.fieldLink own index "ExecutiveDesk$Row" "items" "[I" ∈ ed_tb) (hdg : decode cc pc = .ok (.getfield index, 3))
    (kk : W p l e R s m args below meth c H locs cells slots Q (F0 m (pc + 3) ls (.ref (ad (pItm i)) :: rest))) : W p l e R s m args below meth c H locs cells slots Q (F0 m pc ls (.ref (ad (pRow i)) :: rest)) :=
  va_get (D := D) (ci := 2) (C := "ExecutiveDesk$Row") (T := T_Row) (N := 2) B.1 B.2.1 B.2.2.2.2.1 iw_Row B.2.2.2.1 B.2.2.2.2.2.1 hP (pRow i) (ed_w_Row h) rfl 0 (by decide) (B.2.2.2.2.1 _ hlink) (fun _ q => q) rfl hdg kk
theorem gf_Row_size (B : ed_B p s m args meth c cc own nL D ca) (hP : va_P D vwCl (ed_w ad ca σ) H) (h : i < 34) (hlink : Cond.fieldLink own index "ExecutiveDesk$Row" "size" "I" ∈ ed_tb) (hdg : decode cc pc = .ok (.getfield index, 3))
    (kk : W p l e R s m args below meth c H locs cells slots Q (F0 m (pc + 3) ls (.int (σ 18 i 0) :: rest))) : W p l e R s m args below meth c H locs cells slots Q (F0 m pc ls (.ref (ad (pRow i)) :: rest)) :=
  va_get (D := D) (ci := 2) (C := "ExecutiveDesk$Row") (T := T_Row) (N := 2) B.1 B.2.1 B.2.2.2.2.1 iw_Row B.2.2.2.1 B.2.2.2.2.2.1 hP (pRow i) (ed_w_Row h) rfl 1 (by decide) (B.2.2.2.2.1 _ hlink) (fun _ q => q) rfl hdg kk
theorem pf_Row_size (B : ed_B p s m args meth c cc own nL D ca) (hP : va_P D vwCl (ed_w ad ca σ) H) (hD : va_D A (ed_w ad ca σ)) (hS : va_S A s.heap H locs) (h : i < 34) (eq : σ1 = ed_st σ 18 i 0 v) (hlink : Cond.fieldLink own index "ExecutiveDesk$Row" "size" "I" ∈ ed_tb) (hdg : decode cc pc = .ok (.putfield index, 3))
    (kk : ∀ (H1 : Heap) (locs1 : List Loc), va_P D vwCl (ed_w ad ca σ1) H1 → va_D A (ed_w ad ca σ1) → va_S A s.heap H1 locs1 → W p l e R s m args below meth c H1 locs1 cells slots Q (F0 m (pc + 3) ls rest)) : W p l e R s m args below meth c H locs cells slots Q (F0 m pc ls (.int v :: .ref (ad (pRow i)) :: rest)) := by
  subst eq
  refine va_put (D := D) (ci := 2) (C := "ExecutiveDesk$Row") (T := T_Row) (N := 2) (v := .int v) (ty := .int) B.1 B.2.1 B.2.2.2.2.1 iw_Row ty_Row tyok_Row nm_Row B.2.2.2.1 B.2.2.2.2.2.1 hP hD hS (pRow i) (ed_w_Row h) rfl 1 (by decide) (B.2.2.2.2.1 _ hlink) (fun _ q => q) rfl (by decide +kernel) rfl rfl (Nat.le_of_ble_eq_true rfl) hdg (fun H1 locs1 hP1 hD1 hS1 => ?_)
  have q0 := ed_w_set (ad := ad) (ca := ca) (σ := σ) (σ2 := ed_st σ 18 i 0 v) (ed_lt_Row h) (ed_ct_Row h) (fun z hz => ed_ct_st hz)
  have q1 : cRow ad ca (ed_st σ 18 i 0 v) i = .inr (2, List.set [.ref (ad (pItm i)), .int (σ 18 i 0)] 1 (.int v)) := by simp [cRow, ed_st]
  rw [q1] at q0
  rw [q0] at hP1 hD1
  exact kk H1 locs1 hP1 hD1 hS1
theorem ed_rc_Row (B : ed_B p s m args meth c cc own nL D ca) (hP : va_P D vwCl (ed_w ad ca σ) H) (h : i < 34) : ∃ cell : Cell, H[ad (pRow i)]? = some cell ∧ cell.vm.isStatics = false ∧ s.vm.findClass "ExecutiveDesk$Row" = some cell.cls := va_recv B.2.2.2.2.2.1 hP (ci := 2) (q0 := pRow i) rfl (ed_w_Row h)
theorem gf_Proc_handleObjects (B : ed_B p s m args meth c cc own nL D ca) (hP : va_P D vwCl (ed_w ad ca σ) H) (h : i < 4) (hlink : Cond.fieldLink own index "ExecutiveDesk$ProcessState" "handleObjects" "[I" ∈ ed_tb) (hdg : decode cc pc = .ok (.getfield index, 3))
    (kk : W p l e R s m args below meth c H locs cells slots Q (F0 m (pc + 3) ls (.ref (ad (pPHo i)) :: rest))) : W p l e R s m args below meth c H locs cells slots Q (F0 m pc ls (.ref (ad (pProc i)) :: rest)) :=
  va_get (D := D) (ci := 1) (C := "ExecutiveDesk$ProcessState") (T := T_Proc) (N := 5) B.1 B.2.1 B.2.2.2.2.1 iw_Proc B.2.2.2.1 B.2.2.2.2.2.1 hP (pProc i) (ed_w_Proc h) rfl 0 (by decide) (B.2.2.2.2.1 _ hlink) (fun _ q => q) rfl hdg kk
theorem gf_Proc_handleRights (B : ed_B p s m args meth c cc own nL D ca) (hP : va_P D vwCl (ed_w ad ca σ) H) (h : i < 4) (hlink : Cond.fieldLink own index "ExecutiveDesk$ProcessState" "handleRights" "[I" ∈ ed_tb) (hdg : decode cc pc = .ok (.getfield index, 3))
    (kk : W p l e R s m args below meth c H locs cells slots Q (F0 m (pc + 3) ls (.ref (ad (pPRi i)) :: rest))) : W p l e R s m args below meth c H locs cells slots Q (F0 m pc ls (.ref (ad (pProc i)) :: rest)) :=
  va_get (D := D) (ci := 1) (C := "ExecutiveDesk$ProcessState") (T := T_Proc) (N := 5) B.1 B.2.1 B.2.2.2.2.1 iw_Proc B.2.2.2.1 B.2.2.2.2.2.1 hP (pProc i) (ed_w_Proc h) rfl 1 (by decide) (B.2.2.2.2.1 _ hlink) (fun _ q => q) rfl hdg kk
theorem gf_Proc_groups (B : ed_B p s m args meth c cc own nL D ca) (hP : va_P D vwCl (ed_w ad ca σ) H) (h : i < 4) (hlink : Cond.fieldLink own index "ExecutiveDesk$ProcessState" "groups" "I" ∈ ed_tb) (hdg : decode cc pc = .ok (.getfield index, 3))
    (kk : W p l e R s m args below meth c H locs cells slots Q (F0 m (pc + 3) ls (.int (σ 19 i 0) :: rest))) : W p l e R s m args below meth c H locs cells slots Q (F0 m pc ls (.ref (ad (pProc i)) :: rest)) :=
  va_get (D := D) (ci := 1) (C := "ExecutiveDesk$ProcessState") (T := T_Proc) (N := 5) B.1 B.2.1 B.2.2.2.2.1 iw_Proc B.2.2.2.1 B.2.2.2.2.2.1 hP (pProc i) (ed_w_Proc h) rfl 2 (by decide) (B.2.2.2.2.1 _ hlink) (fun _ q => q) rfl hdg kk
theorem pf_Proc_groups (B : ed_B p s m args meth c cc own nL D ca) (hP : va_P D vwCl (ed_w ad ca σ) H) (hD : va_D A (ed_w ad ca σ)) (hS : va_S A s.heap H locs) (h : i < 4) (eq : σ1 = ed_st σ 19 i 0 v) (hlink : Cond.fieldLink own index "ExecutiveDesk$ProcessState" "groups" "I" ∈ ed_tb) (hdg : decode cc pc = .ok (.putfield index, 3))
    (kk : ∀ (H1 : Heap) (locs1 : List Loc), va_P D vwCl (ed_w ad ca σ1) H1 → va_D A (ed_w ad ca σ1) → va_S A s.heap H1 locs1 → W p l e R s m args below meth c H1 locs1 cells slots Q (F0 m (pc + 3) ls rest)) : W p l e R s m args below meth c H locs cells slots Q (F0 m pc ls (.int v :: .ref (ad (pProc i)) :: rest)) := by
  subst eq
  refine va_put (D := D) (ci := 1) (C := "ExecutiveDesk$ProcessState") (T := T_Proc) (N := 5) (v := .int v) (ty := .int) B.1 B.2.1 B.2.2.2.2.1 iw_Proc ty_Proc tyok_Proc nm_Proc B.2.2.2.1 B.2.2.2.2.2.1 hP hD hS (pProc i) (ed_w_Proc h) rfl 2 (by decide) (B.2.2.2.2.1 _ hlink) (fun _ q => q) rfl (by decide +kernel) rfl rfl (Nat.le_of_ble_eq_true rfl) hdg (fun H1 locs1 hP1 hD1 hS1 => ?_)
  have q0 := ed_w_set (ad := ad) (ca := ca) (σ := σ) (σ2 := ed_st σ 19 i 0 v) (ed_lt_Proc h) (ed_ct_Proc h) (fun z hz => ed_ct_st hz)
  have q1 : cProc ad ca (ed_st σ 19 i 0 v) i = .inr (1, List.set [.ref (ad (pPHo i)), .ref (ad (pPRi i)), .int (σ 19 i 0), .int (σ 20 i 0), .int (σ 21 i 0)] 2 (.int v)) := by simp [cProc, ed_st]
  rw [q1] at q0
  rw [q0] at hP1 hD1
  exact kk H1 locs1 hP1 hD1 hS1
theorem gf_Proc_threadsMade (B : ed_B p s m args meth c cc own nL D ca) (hP : va_P D vwCl (ed_w ad ca σ) H) (h : i < 4) (hlink : Cond.fieldLink own index "ExecutiveDesk$ProcessState" "threadsMade" "I" ∈ ed_tb) (hdg : decode cc pc = .ok (.getfield index, 3))
    (kk : W p l e R s m args below meth c H locs cells slots Q (F0 m (pc + 3) ls (.int (σ 20 i 0) :: rest))) : W p l e R s m args below meth c H locs cells slots Q (F0 m pc ls (.ref (ad (pProc i)) :: rest)) :=
  va_get (D := D) (ci := 1) (C := "ExecutiveDesk$ProcessState") (T := T_Proc) (N := 5) B.1 B.2.1 B.2.2.2.2.1 iw_Proc B.2.2.2.1 B.2.2.2.2.2.1 hP (pProc i) (ed_w_Proc h) rfl 3 (by decide) (B.2.2.2.2.1 _ hlink) (fun _ q => q) rfl hdg kk
theorem pf_Proc_threadsMade (B : ed_B p s m args meth c cc own nL D ca) (hP : va_P D vwCl (ed_w ad ca σ) H) (hD : va_D A (ed_w ad ca σ)) (hS : va_S A s.heap H locs) (h : i < 4) (eq : σ1 = ed_st σ 20 i 0 v) (hlink : Cond.fieldLink own index "ExecutiveDesk$ProcessState" "threadsMade" "I" ∈ ed_tb) (hdg : decode cc pc = .ok (.putfield index, 3))
    (kk : ∀ (H1 : Heap) (locs1 : List Loc), va_P D vwCl (ed_w ad ca σ1) H1 → va_D A (ed_w ad ca σ1) → va_S A s.heap H1 locs1 → W p l e R s m args below meth c H1 locs1 cells slots Q (F0 m (pc + 3) ls rest)) : W p l e R s m args below meth c H locs cells slots Q (F0 m pc ls (.int v :: .ref (ad (pProc i)) :: rest)) := by
  subst eq
  refine va_put (D := D) (ci := 1) (C := "ExecutiveDesk$ProcessState") (T := T_Proc) (N := 5) (v := .int v) (ty := .int) B.1 B.2.1 B.2.2.2.2.1 iw_Proc ty_Proc tyok_Proc nm_Proc B.2.2.2.1 B.2.2.2.2.2.1 hP hD hS (pProc i) (ed_w_Proc h) rfl 3 (by decide) (B.2.2.2.2.1 _ hlink) (fun _ q => q) rfl (by decide +kernel) rfl rfl (Nat.le_of_ble_eq_true rfl) hdg (fun H1 locs1 hP1 hD1 hS1 => ?_)
  have q0 := ed_w_set (ad := ad) (ca := ca) (σ := σ) (σ2 := ed_st σ 20 i 0 v) (ed_lt_Proc h) (ed_ct_Proc h) (fun z hz => ed_ct_st hz)
  have q1 : cProc ad ca (ed_st σ 20 i 0 v) i = .inr (1, List.set [.ref (ad (pPHo i)), .ref (ad (pPRi i)), .int (σ 19 i 0), .int (σ 20 i 0), .int (σ 21 i 0)] 3 (.int v)) := by simp [cProc, ed_st]
  rw [q1] at q0
  rw [q0] at hP1 hD1
  exact kk H1 locs1 hP1 hD1 hS1
theorem gf_Proc_threadsAlive (B : ed_B p s m args meth c cc own nL D ca) (hP : va_P D vwCl (ed_w ad ca σ) H) (h : i < 4) (hlink : Cond.fieldLink own index "ExecutiveDesk$ProcessState" "threadsAlive" "I" ∈ ed_tb) (hdg : decode cc pc = .ok (.getfield index, 3))
    (kk : W p l e R s m args below meth c H locs cells slots Q (F0 m (pc + 3) ls (.int (σ 21 i 0) :: rest))) : W p l e R s m args below meth c H locs cells slots Q (F0 m pc ls (.ref (ad (pProc i)) :: rest)) :=
  va_get (D := D) (ci := 1) (C := "ExecutiveDesk$ProcessState") (T := T_Proc) (N := 5) B.1 B.2.1 B.2.2.2.2.1 iw_Proc B.2.2.2.1 B.2.2.2.2.2.1 hP (pProc i) (ed_w_Proc h) rfl 4 (by decide) (B.2.2.2.2.1 _ hlink) (fun _ q => q) rfl hdg kk
theorem pf_Proc_threadsAlive (B : ed_B p s m args meth c cc own nL D ca) (hP : va_P D vwCl (ed_w ad ca σ) H) (hD : va_D A (ed_w ad ca σ)) (hS : va_S A s.heap H locs) (h : i < 4) (eq : σ1 = ed_st σ 21 i 0 v) (hlink : Cond.fieldLink own index "ExecutiveDesk$ProcessState" "threadsAlive" "I" ∈ ed_tb) (hdg : decode cc pc = .ok (.putfield index, 3))
    (kk : ∀ (H1 : Heap) (locs1 : List Loc), va_P D vwCl (ed_w ad ca σ1) H1 → va_D A (ed_w ad ca σ1) → va_S A s.heap H1 locs1 → W p l e R s m args below meth c H1 locs1 cells slots Q (F0 m (pc + 3) ls rest)) : W p l e R s m args below meth c H locs cells slots Q (F0 m pc ls (.int v :: .ref (ad (pProc i)) :: rest)) := by
  subst eq
  refine va_put (D := D) (ci := 1) (C := "ExecutiveDesk$ProcessState") (T := T_Proc) (N := 5) (v := .int v) (ty := .int) B.1 B.2.1 B.2.2.2.2.1 iw_Proc ty_Proc tyok_Proc nm_Proc B.2.2.2.1 B.2.2.2.2.2.1 hP hD hS (pProc i) (ed_w_Proc h) rfl 4 (by decide) (B.2.2.2.2.1 _ hlink) (fun _ q => q) rfl (by decide +kernel) rfl rfl (Nat.le_of_ble_eq_true rfl) hdg (fun H1 locs1 hP1 hD1 hS1 => ?_)
  have q0 := ed_w_set (ad := ad) (ca := ca) (σ := σ) (σ2 := ed_st σ 21 i 0 v) (ed_lt_Proc h) (ed_ct_Proc h) (fun z hz => ed_ct_st hz)
  have q1 : cProc ad ca (ed_st σ 21 i 0 v) i = .inr (1, List.set [.ref (ad (pPHo i)), .ref (ad (pPRi i)), .int (σ 19 i 0), .int (σ 20 i 0), .int (σ 21 i 0)] 4 (.int v)) := by simp [cProc, ed_st]
  rw [q1] at q0
  rw [q0] at hP1 hD1
  exact kk H1 locs1 hP1 hD1 hS1
theorem ed_rc_Proc (B : ed_B p s m args meth c cc own nL D ca) (hP : va_P D vwCl (ed_w ad ca σ) H) (h : i < 4) : ∃ cell : Cell, H[ad (pProc i)]? = some cell ∧ cell.vm.isStatics = false ∧ s.vm.findClass "ExecutiveDesk$ProcessState" = some cell.cls := va_recv B.2.2.2.2.2.1 hP (ci := 1) (q0 := pProc i) rfl (ed_w_Proc h)
theorem gf_Obj_rules (B : ed_B p s m args meth c cc own nL D ca) (hP : va_P D vwCl (ed_w ad ca σ) H) (h : i < 16) (hlink : Cond.fieldLink own index "ExecutiveDesk$ObjectState" "rules" "LExecutiveDesk$RuleList;" ∈ ed_tb) (hdg : decode cc pc = .ok (.getfield index, 3))
    (kk : W p l e R s m args below meth c H locs cells slots Q (F0 m (pc + 3) ls (.ref (ad (pRul i)) :: rest))) : W p l e R s m args below meth c H locs cells slots Q (F0 m pc ls (.ref (ad (pObj i)) :: rest)) :=
  va_get (D := D) (ci := 0) (C := "ExecutiveDesk$ObjectState") (T := T_Obj) (N := 10) B.1 B.2.1 B.2.2.2.2.1 iw_Obj B.2.2.2.1 B.2.2.2.2.2.1 hP (pObj i) (ed_w_Obj h) rfl 0 (by decide) (B.2.2.2.2.1 _ hlink) (fun _ q => q) rfl hdg kk
theorem gf_Obj_row (B : ed_B p s m args meth c cc own nL D ca) (hP : va_P D vwCl (ed_w ad ca σ) H) (h : i < 16) (hlink : Cond.fieldLink own index "ExecutiveDesk$ObjectState" "row" "LExecutiveDesk$Row;" ∈ ed_tb) (hdg : decode cc pc = .ok (.getfield index, 3))
    (kk : W p l e R s m args below meth c H locs cells slots Q (F0 m (pc + 3) ls (.ref (ad (pRow (16 + i))) :: rest))) : W p l e R s m args below meth c H locs cells slots Q (F0 m pc ls (.ref (ad (pObj i)) :: rest)) :=
  va_get (D := D) (ci := 0) (C := "ExecutiveDesk$ObjectState") (T := T_Obj) (N := 10) B.1 B.2.1 B.2.2.2.2.1 iw_Obj B.2.2.2.1 B.2.2.2.2.2.1 hP (pObj i) (ed_w_Obj h) rfl 1 (by decide) (B.2.2.2.2.1 _ hlink) (fun _ q => q) rfl hdg kk
theorem gf_Obj_type (B : ed_B p s m args meth c cc own nL D ca) (hP : va_P D vwCl (ed_w ad ca σ) H) (h : i < 16) (hlink : Cond.fieldLink own index "ExecutiveDesk$ObjectState" "type" "I" ∈ ed_tb) (hdg : decode cc pc = .ok (.getfield index, 3))
    (kk : W p l e R s m args below meth c H locs cells slots Q (F0 m (pc + 3) ls (.int (σ 22 i 0) :: rest))) : W p l e R s m args below meth c H locs cells slots Q (F0 m pc ls (.ref (ad (pObj i)) :: rest)) :=
  va_get (D := D) (ci := 0) (C := "ExecutiveDesk$ObjectState") (T := T_Obj) (N := 10) B.1 B.2.1 B.2.2.2.2.1 iw_Obj B.2.2.2.1 B.2.2.2.2.2.1 hP (pObj i) (ed_w_Obj h) rfl 2 (by decide) (B.2.2.2.2.1 _ hlink) (fun _ q => q) rfl hdg kk
theorem pf_Obj_type (B : ed_B p s m args meth c cc own nL D ca) (hP : va_P D vwCl (ed_w ad ca σ) H) (hD : va_D A (ed_w ad ca σ)) (hS : va_S A s.heap H locs) (h : i < 16) (eq : σ1 = ed_st σ 22 i 0 v) (hlink : Cond.fieldLink own index "ExecutiveDesk$ObjectState" "type" "I" ∈ ed_tb) (hdg : decode cc pc = .ok (.putfield index, 3))
    (kk : ∀ (H1 : Heap) (locs1 : List Loc), va_P D vwCl (ed_w ad ca σ1) H1 → va_D A (ed_w ad ca σ1) → va_S A s.heap H1 locs1 → W p l e R s m args below meth c H1 locs1 cells slots Q (F0 m (pc + 3) ls rest)) : W p l e R s m args below meth c H locs cells slots Q (F0 m pc ls (.int v :: .ref (ad (pObj i)) :: rest)) := by
  subst eq
  refine va_put (D := D) (ci := 0) (C := "ExecutiveDesk$ObjectState") (T := T_Obj) (N := 10) (v := .int v) (ty := .int) B.1 B.2.1 B.2.2.2.2.1 iw_Obj ty_Obj tyok_Obj nm_Obj B.2.2.2.1 B.2.2.2.2.2.1 hP hD hS (pObj i) (ed_w_Obj h) rfl 2 (by decide) (B.2.2.2.2.1 _ hlink) (fun _ q => q) rfl (by decide +kernel) rfl rfl (Nat.le_of_ble_eq_true rfl) hdg (fun H1 locs1 hP1 hD1 hS1 => ?_)
  have q0 := ed_w_set (ad := ad) (ca := ca) (σ := σ) (σ2 := ed_st σ 22 i 0 v) (ed_lt_Obj h) (ed_ct_Obj h) (fun z hz => ed_ct_st hz)
  have q1 : cObj ad ca (ed_st σ 22 i 0 v) i = .inr (0, List.set [.ref (ad (pRul i)), .ref (ad (pRow (16 + i))), .int (σ 22 i 0), .int (σ 23 i 0), .int (σ 24 i 0), .int (σ 25 i 0), .int (σ 26 i 0), .int (σ 27 i 0), .int (σ 28 i 0), .int (σ 29 i 0)] 2 (.int v)) := by simp [cObj, ed_st]
  rw [q1] at q0
  rw [q0] at hP1 hD1
  exact kk H1 locs1 hP1 hD1 hS1
theorem gf_Obj_name (B : ed_B p s m args meth c cc own nL D ca) (hP : va_P D vwCl (ed_w ad ca σ) H) (h : i < 16) (hlink : Cond.fieldLink own index "ExecutiveDesk$ObjectState" "name" "I" ∈ ed_tb) (hdg : decode cc pc = .ok (.getfield index, 3))
    (kk : W p l e R s m args below meth c H locs cells slots Q (F0 m (pc + 3) ls (.int (σ 23 i 0) :: rest))) : W p l e R s m args below meth c H locs cells slots Q (F0 m pc ls (.ref (ad (pObj i)) :: rest)) :=
  va_get (D := D) (ci := 0) (C := "ExecutiveDesk$ObjectState") (T := T_Obj) (N := 10) B.1 B.2.1 B.2.2.2.2.1 iw_Obj B.2.2.2.1 B.2.2.2.2.2.1 hP (pObj i) (ed_w_Obj h) rfl 3 (by decide) (B.2.2.2.2.1 _ hlink) (fun _ q => q) rfl hdg kk
theorem pf_Obj_name (B : ed_B p s m args meth c cc own nL D ca) (hP : va_P D vwCl (ed_w ad ca σ) H) (hD : va_D A (ed_w ad ca σ)) (hS : va_S A s.heap H locs) (h : i < 16) (eq : σ1 = ed_st σ 23 i 0 v) (hlink : Cond.fieldLink own index "ExecutiveDesk$ObjectState" "name" "I" ∈ ed_tb) (hdg : decode cc pc = .ok (.putfield index, 3))
    (kk : ∀ (H1 : Heap) (locs1 : List Loc), va_P D vwCl (ed_w ad ca σ1) H1 → va_D A (ed_w ad ca σ1) → va_S A s.heap H1 locs1 → W p l e R s m args below meth c H1 locs1 cells slots Q (F0 m (pc + 3) ls rest)) : W p l e R s m args below meth c H locs cells slots Q (F0 m pc ls (.int v :: .ref (ad (pObj i)) :: rest)) := by
  subst eq
  refine va_put (D := D) (ci := 0) (C := "ExecutiveDesk$ObjectState") (T := T_Obj) (N := 10) (v := .int v) (ty := .int) B.1 B.2.1 B.2.2.2.2.1 iw_Obj ty_Obj tyok_Obj nm_Obj B.2.2.2.1 B.2.2.2.2.2.1 hP hD hS (pObj i) (ed_w_Obj h) rfl 3 (by decide) (B.2.2.2.2.1 _ hlink) (fun _ q => q) rfl (by decide +kernel) rfl rfl (Nat.le_of_ble_eq_true rfl) hdg (fun H1 locs1 hP1 hD1 hS1 => ?_)
  have q0 := ed_w_set (ad := ad) (ca := ca) (σ := σ) (σ2 := ed_st σ 23 i 0 v) (ed_lt_Obj h) (ed_ct_Obj h) (fun z hz => ed_ct_st hz)
  have q1 : cObj ad ca (ed_st σ 23 i 0 v) i = .inr (0, List.set [.ref (ad (pRul i)), .ref (ad (pRow (16 + i))), .int (σ 22 i 0), .int (σ 23 i 0), .int (σ 24 i 0), .int (σ 25 i 0), .int (σ 26 i 0), .int (σ 27 i 0), .int (σ 28 i 0), .int (σ 29 i 0)] 3 (.int v)) := by simp [cObj, ed_st]
  rw [q1] at q0
  rw [q0] at hP1 hD1
  exact kk H1 locs1 hP1 hD1 hS1
theorem gf_Obj_handles (B : ed_B p s m args meth c cc own nL D ca) (hP : va_P D vwCl (ed_w ad ca σ) H) (h : i < 16) (hlink : Cond.fieldLink own index "ExecutiveDesk$ObjectState" "handles" "I" ∈ ed_tb) (hdg : decode cc pc = .ok (.getfield index, 3))
    (kk : W p l e R s m args below meth c H locs cells slots Q (F0 m (pc + 3) ls (.int (σ 24 i 0) :: rest))) : W p l e R s m args below meth c H locs cells slots Q (F0 m pc ls (.ref (ad (pObj i)) :: rest)) :=
  va_get (D := D) (ci := 0) (C := "ExecutiveDesk$ObjectState") (T := T_Obj) (N := 10) B.1 B.2.1 B.2.2.2.2.1 iw_Obj B.2.2.2.1 B.2.2.2.2.2.1 hP (pObj i) (ed_w_Obj h) rfl 4 (by decide) (B.2.2.2.2.1 _ hlink) (fun _ q => q) rfl hdg kk
theorem pf_Obj_handles (B : ed_B p s m args meth c cc own nL D ca) (hP : va_P D vwCl (ed_w ad ca σ) H) (hD : va_D A (ed_w ad ca σ)) (hS : va_S A s.heap H locs) (h : i < 16) (eq : σ1 = ed_st σ 24 i 0 v) (hlink : Cond.fieldLink own index "ExecutiveDesk$ObjectState" "handles" "I" ∈ ed_tb) (hdg : decode cc pc = .ok (.putfield index, 3))
    (kk : ∀ (H1 : Heap) (locs1 : List Loc), va_P D vwCl (ed_w ad ca σ1) H1 → va_D A (ed_w ad ca σ1) → va_S A s.heap H1 locs1 → W p l e R s m args below meth c H1 locs1 cells slots Q (F0 m (pc + 3) ls rest)) : W p l e R s m args below meth c H locs cells slots Q (F0 m pc ls (.int v :: .ref (ad (pObj i)) :: rest)) := by
  subst eq
  refine va_put (D := D) (ci := 0) (C := "ExecutiveDesk$ObjectState") (T := T_Obj) (N := 10) (v := .int v) (ty := .int) B.1 B.2.1 B.2.2.2.2.1 iw_Obj ty_Obj tyok_Obj nm_Obj B.2.2.2.1 B.2.2.2.2.2.1 hP hD hS (pObj i) (ed_w_Obj h) rfl 4 (by decide) (B.2.2.2.2.1 _ hlink) (fun _ q => q) rfl (by decide +kernel) rfl rfl (Nat.le_of_ble_eq_true rfl) hdg (fun H1 locs1 hP1 hD1 hS1 => ?_)
  have q0 := ed_w_set (ad := ad) (ca := ca) (σ := σ) (σ2 := ed_st σ 24 i 0 v) (ed_lt_Obj h) (ed_ct_Obj h) (fun z hz => ed_ct_st hz)
  have q1 : cObj ad ca (ed_st σ 24 i 0 v) i = .inr (0, List.set [.ref (ad (pRul i)), .ref (ad (pRow (16 + i))), .int (σ 22 i 0), .int (σ 23 i 0), .int (σ 24 i 0), .int (σ 25 i 0), .int (σ 26 i 0), .int (σ 27 i 0), .int (σ 28 i 0), .int (σ 29 i 0)] 4 (.int v)) := by simp [cObj, ed_st]
  rw [q1] at q0
  rw [q0] at hP1 hD1
  exact kk H1 locs1 hP1 hD1 hS1
theorem gf_Obj_pointers (B : ed_B p s m args meth c cc own nL D ca) (hP : va_P D vwCl (ed_w ad ca σ) H) (h : i < 16) (hlink : Cond.fieldLink own index "ExecutiveDesk$ObjectState" "pointers" "I" ∈ ed_tb) (hdg : decode cc pc = .ok (.getfield index, 3))
    (kk : W p l e R s m args below meth c H locs cells slots Q (F0 m (pc + 3) ls (.int (σ 25 i 0) :: rest))) : W p l e R s m args below meth c H locs cells slots Q (F0 m pc ls (.ref (ad (pObj i)) :: rest)) :=
  va_get (D := D) (ci := 0) (C := "ExecutiveDesk$ObjectState") (T := T_Obj) (N := 10) B.1 B.2.1 B.2.2.2.2.1 iw_Obj B.2.2.2.1 B.2.2.2.2.2.1 hP (pObj i) (ed_w_Obj h) rfl 5 (by decide) (B.2.2.2.2.1 _ hlink) (fun _ q => q) rfl hdg kk
theorem pf_Obj_pointers (B : ed_B p s m args meth c cc own nL D ca) (hP : va_P D vwCl (ed_w ad ca σ) H) (hD : va_D A (ed_w ad ca σ)) (hS : va_S A s.heap H locs) (h : i < 16) (eq : σ1 = ed_st σ 25 i 0 v) (hlink : Cond.fieldLink own index "ExecutiveDesk$ObjectState" "pointers" "I" ∈ ed_tb) (hdg : decode cc pc = .ok (.putfield index, 3))
    (kk : ∀ (H1 : Heap) (locs1 : List Loc), va_P D vwCl (ed_w ad ca σ1) H1 → va_D A (ed_w ad ca σ1) → va_S A s.heap H1 locs1 → W p l e R s m args below meth c H1 locs1 cells slots Q (F0 m (pc + 3) ls rest)) : W p l e R s m args below meth c H locs cells slots Q (F0 m pc ls (.int v :: .ref (ad (pObj i)) :: rest)) := by
  subst eq
  refine va_put (D := D) (ci := 0) (C := "ExecutiveDesk$ObjectState") (T := T_Obj) (N := 10) (v := .int v) (ty := .int) B.1 B.2.1 B.2.2.2.2.1 iw_Obj ty_Obj tyok_Obj nm_Obj B.2.2.2.1 B.2.2.2.2.2.1 hP hD hS (pObj i) (ed_w_Obj h) rfl 5 (by decide) (B.2.2.2.2.1 _ hlink) (fun _ q => q) rfl (by decide +kernel) rfl rfl (Nat.le_of_ble_eq_true rfl) hdg (fun H1 locs1 hP1 hD1 hS1 => ?_)
  have q0 := ed_w_set (ad := ad) (ca := ca) (σ := σ) (σ2 := ed_st σ 25 i 0 v) (ed_lt_Obj h) (ed_ct_Obj h) (fun z hz => ed_ct_st hz)
  have q1 : cObj ad ca (ed_st σ 25 i 0 v) i = .inr (0, List.set [.ref (ad (pRul i)), .ref (ad (pRow (16 + i))), .int (σ 22 i 0), .int (σ 23 i 0), .int (σ 24 i 0), .int (σ 25 i 0), .int (σ 26 i 0), .int (σ 27 i 0), .int (σ 28 i 0), .int (σ 29 i 0)] 5 (.int v)) := by simp [cObj, ed_st]
  rw [q1] at q0
  rw [q0] at hP1 hD1
  exact kk H1 locs1 hP1 hD1 hS1
theorem gf_Obj_value (B : ed_B p s m args meth c cc own nL D ca) (hP : va_P D vwCl (ed_w ad ca σ) H) (h : i < 16) (hlink : Cond.fieldLink own index "ExecutiveDesk$ObjectState" "value" "I" ∈ ed_tb) (hdg : decode cc pc = .ok (.getfield index, 3))
    (kk : W p l e R s m args below meth c H locs cells slots Q (F0 m (pc + 3) ls (.int (σ 26 i 0) :: rest))) : W p l e R s m args below meth c H locs cells slots Q (F0 m pc ls (.ref (ad (pObj i)) :: rest)) :=
  va_get (D := D) (ci := 0) (C := "ExecutiveDesk$ObjectState") (T := T_Obj) (N := 10) B.1 B.2.1 B.2.2.2.2.1 iw_Obj B.2.2.2.1 B.2.2.2.2.2.1 hP (pObj i) (ed_w_Obj h) rfl 6 (by decide) (B.2.2.2.2.1 _ hlink) (fun _ q => q) rfl hdg kk
theorem pf_Obj_value (B : ed_B p s m args meth c cc own nL D ca) (hP : va_P D vwCl (ed_w ad ca σ) H) (hD : va_D A (ed_w ad ca σ)) (hS : va_S A s.heap H locs) (h : i < 16) (eq : σ1 = ed_st σ 26 i 0 v) (hlink : Cond.fieldLink own index "ExecutiveDesk$ObjectState" "value" "I" ∈ ed_tb) (hdg : decode cc pc = .ok (.putfield index, 3))
    (kk : ∀ (H1 : Heap) (locs1 : List Loc), va_P D vwCl (ed_w ad ca σ1) H1 → va_D A (ed_w ad ca σ1) → va_S A s.heap H1 locs1 → W p l e R s m args below meth c H1 locs1 cells slots Q (F0 m (pc + 3) ls rest)) : W p l e R s m args below meth c H locs cells slots Q (F0 m pc ls (.int v :: .ref (ad (pObj i)) :: rest)) := by
  subst eq
  refine va_put (D := D) (ci := 0) (C := "ExecutiveDesk$ObjectState") (T := T_Obj) (N := 10) (v := .int v) (ty := .int) B.1 B.2.1 B.2.2.2.2.1 iw_Obj ty_Obj tyok_Obj nm_Obj B.2.2.2.1 B.2.2.2.2.2.1 hP hD hS (pObj i) (ed_w_Obj h) rfl 6 (by decide) (B.2.2.2.2.1 _ hlink) (fun _ q => q) rfl (by decide +kernel) rfl rfl (Nat.le_of_ble_eq_true rfl) hdg (fun H1 locs1 hP1 hD1 hS1 => ?_)
  have q0 := ed_w_set (ad := ad) (ca := ca) (σ := σ) (σ2 := ed_st σ 26 i 0 v) (ed_lt_Obj h) (ed_ct_Obj h) (fun z hz => ed_ct_st hz)
  have q1 : cObj ad ca (ed_st σ 26 i 0 v) i = .inr (0, List.set [.ref (ad (pRul i)), .ref (ad (pRow (16 + i))), .int (σ 22 i 0), .int (σ 23 i 0), .int (σ 24 i 0), .int (σ 25 i 0), .int (σ 26 i 0), .int (σ 27 i 0), .int (σ 28 i 0), .int (σ 29 i 0)] 6 (.int v)) := by simp [cObj, ed_st]
  rw [q1] at q0
  rw [q0] at hP1 hD1
  exact kk H1 locs1 hP1 hD1 hS1
theorem gf_Obj_owner (B : ed_B p s m args meth c cc own nL D ca) (hP : va_P D vwCl (ed_w ad ca σ) H) (h : i < 16) (hlink : Cond.fieldLink own index "ExecutiveDesk$ObjectState" "owner" "I" ∈ ed_tb) (hdg : decode cc pc = .ok (.getfield index, 3))
    (kk : W p l e R s m args below meth c H locs cells slots Q (F0 m (pc + 3) ls (.int (σ 27 i 0) :: rest))) : W p l e R s m args below meth c H locs cells slots Q (F0 m pc ls (.ref (ad (pObj i)) :: rest)) :=
  va_get (D := D) (ci := 0) (C := "ExecutiveDesk$ObjectState") (T := T_Obj) (N := 10) B.1 B.2.1 B.2.2.2.2.1 iw_Obj B.2.2.2.1 B.2.2.2.2.2.1 hP (pObj i) (ed_w_Obj h) rfl 7 (by decide) (B.2.2.2.2.1 _ hlink) (fun _ q => q) rfl hdg kk
theorem pf_Obj_owner (B : ed_B p s m args meth c cc own nL D ca) (hP : va_P D vwCl (ed_w ad ca σ) H) (hD : va_D A (ed_w ad ca σ)) (hS : va_S A s.heap H locs) (h : i < 16) (eq : σ1 = ed_st σ 27 i 0 v) (hlink : Cond.fieldLink own index "ExecutiveDesk$ObjectState" "owner" "I" ∈ ed_tb) (hdg : decode cc pc = .ok (.putfield index, 3))
    (kk : ∀ (H1 : Heap) (locs1 : List Loc), va_P D vwCl (ed_w ad ca σ1) H1 → va_D A (ed_w ad ca σ1) → va_S A s.heap H1 locs1 → W p l e R s m args below meth c H1 locs1 cells slots Q (F0 m (pc + 3) ls rest)) : W p l e R s m args below meth c H locs cells slots Q (F0 m pc ls (.int v :: .ref (ad (pObj i)) :: rest)) := by
  subst eq
  refine va_put (D := D) (ci := 0) (C := "ExecutiveDesk$ObjectState") (T := T_Obj) (N := 10) (v := .int v) (ty := .int) B.1 B.2.1 B.2.2.2.2.1 iw_Obj ty_Obj tyok_Obj nm_Obj B.2.2.2.1 B.2.2.2.2.2.1 hP hD hS (pObj i) (ed_w_Obj h) rfl 7 (by decide) (B.2.2.2.2.1 _ hlink) (fun _ q => q) rfl (by decide +kernel) rfl rfl (Nat.le_of_ble_eq_true rfl) hdg (fun H1 locs1 hP1 hD1 hS1 => ?_)
  have q0 := ed_w_set (ad := ad) (ca := ca) (σ := σ) (σ2 := ed_st σ 27 i 0 v) (ed_lt_Obj h) (ed_ct_Obj h) (fun z hz => ed_ct_st hz)
  have q1 : cObj ad ca (ed_st σ 27 i 0 v) i = .inr (0, List.set [.ref (ad (pRul i)), .ref (ad (pRow (16 + i))), .int (σ 22 i 0), .int (σ 23 i 0), .int (σ 24 i 0), .int (σ 25 i 0), .int (σ 26 i 0), .int (σ 27 i 0), .int (σ 28 i 0), .int (σ 29 i 0)] 7 (.int v)) := by simp [cObj, ed_st]
  rw [q1] at q0
  rw [q0] at hP1 hD1
  exact kk H1 locs1 hP1 hD1 hS1
theorem gf_Obj_abandoned (B : ed_B p s m args meth c cc own nL D ca) (hP : va_P D vwCl (ed_w ad ca σ) H) (h : i < 16) (hlink : Cond.fieldLink own index "ExecutiveDesk$ObjectState" "abandoned" "Z" ∈ ed_tb) (hdg : decode cc pc = .ok (.getfield index, 3))
    (kk : W p l e R s m args below meth c H locs cells slots Q (F0 m (pc + 3) ls (.int (σ 28 i 0) :: rest))) : W p l e R s m args below meth c H locs cells slots Q (F0 m pc ls (.ref (ad (pObj i)) :: rest)) :=
  va_get (D := D) (ci := 0) (C := "ExecutiveDesk$ObjectState") (T := T_Obj) (N := 10) B.1 B.2.1 B.2.2.2.2.1 iw_Obj B.2.2.2.1 B.2.2.2.2.2.1 hP (pObj i) (ed_w_Obj h) rfl 8 (by decide) (B.2.2.2.2.1 _ hlink) (fun _ q => q) rfl hdg kk
theorem pf_Obj_abandoned (B : ed_B p s m args meth c cc own nL D ca) (hP : va_P D vwCl (ed_w ad ca σ) H) (hD : va_D A (ed_w ad ca σ)) (hS : va_S A s.heap H locs) (h : i < 16) (z : v = 0 ∨ v = 1) (eq : σ1 = ed_st σ 28 i 0 v) (hlink : Cond.fieldLink own index "ExecutiveDesk$ObjectState" "abandoned" "Z" ∈ ed_tb) (hdg : decode cc pc = .ok (.putfield index, 3))
    (kk : ∀ (H1 : Heap) (locs1 : List Loc), va_P D vwCl (ed_w ad ca σ1) H1 → va_D A (ed_w ad ca σ1) → va_S A s.heap H1 locs1 → W p l e R s m args below meth c H1 locs1 cells slots Q (F0 m (pc + 3) ls rest)) : W p l e R s m args below meth c H locs cells slots Q (F0 m pc ls (.int v :: .ref (ad (pObj i)) :: rest)) := by
  subst eq
  refine va_put (D := D) (ci := 0) (C := "ExecutiveDesk$ObjectState") (T := T_Obj) (N := 10) (v := .int v) (ty := .boolean) B.1 B.2.1 B.2.2.2.2.1 iw_Obj ty_Obj tyok_Obj nm_Obj B.2.2.2.1 B.2.2.2.2.2.1 hP hD hS (pObj i) (ed_w_Obj h) rfl 8 (by decide) (B.2.2.2.2.1 _ hlink) (fun _ q => q) rfl (by decide +kernel) (by rcases z with rfl | rfl <;> rfl) (by rcases z with rfl | rfl <;> rfl) (Nat.le_of_ble_eq_true rfl) hdg (fun H1 locs1 hP1 hD1 hS1 => ?_)
  have q0 := ed_w_set (ad := ad) (ca := ca) (σ := σ) (σ2 := ed_st σ 28 i 0 v) (ed_lt_Obj h) (ed_ct_Obj h) (fun z hz => ed_ct_st hz)
  have q1 : cObj ad ca (ed_st σ 28 i 0 v) i = .inr (0, List.set [.ref (ad (pRul i)), .ref (ad (pRow (16 + i))), .int (σ 22 i 0), .int (σ 23 i 0), .int (σ 24 i 0), .int (σ 25 i 0), .int (σ 26 i 0), .int (σ 27 i 0), .int (σ 28 i 0), .int (σ 29 i 0)] 8 (.int v)) := by simp [cObj, ed_st]
  rw [q1] at q0
  rw [q0] at hP1 hD1
  exact kk H1 locs1 hP1 hD1 hS1
theorem gf_Obj_due (B : ed_B p s m args meth c cc own nL D ca) (hP : va_P D vwCl (ed_w ad ca σ) H) (h : i < 16) (hlink : Cond.fieldLink own index "ExecutiveDesk$ObjectState" "due" "I" ∈ ed_tb) (hdg : decode cc pc = .ok (.getfield index, 3))
    (kk : W p l e R s m args below meth c H locs cells slots Q (F0 m (pc + 3) ls (.int (σ 29 i 0) :: rest))) : W p l e R s m args below meth c H locs cells slots Q (F0 m pc ls (.ref (ad (pObj i)) :: rest)) :=
  va_get (D := D) (ci := 0) (C := "ExecutiveDesk$ObjectState") (T := T_Obj) (N := 10) B.1 B.2.1 B.2.2.2.2.1 iw_Obj B.2.2.2.1 B.2.2.2.2.2.1 hP (pObj i) (ed_w_Obj h) rfl 9 (by decide) (B.2.2.2.2.1 _ hlink) (fun _ q => q) rfl hdg kk
theorem pf_Obj_due (B : ed_B p s m args meth c cc own nL D ca) (hP : va_P D vwCl (ed_w ad ca σ) H) (hD : va_D A (ed_w ad ca σ)) (hS : va_S A s.heap H locs) (h : i < 16) (eq : σ1 = ed_st σ 29 i 0 v) (hlink : Cond.fieldLink own index "ExecutiveDesk$ObjectState" "due" "I" ∈ ed_tb) (hdg : decode cc pc = .ok (.putfield index, 3))
    (kk : ∀ (H1 : Heap) (locs1 : List Loc), va_P D vwCl (ed_w ad ca σ1) H1 → va_D A (ed_w ad ca σ1) → va_S A s.heap H1 locs1 → W p l e R s m args below meth c H1 locs1 cells slots Q (F0 m (pc + 3) ls rest)) : W p l e R s m args below meth c H locs cells slots Q (F0 m pc ls (.int v :: .ref (ad (pObj i)) :: rest)) := by
  subst eq
  refine va_put (D := D) (ci := 0) (C := "ExecutiveDesk$ObjectState") (T := T_Obj) (N := 10) (v := .int v) (ty := .int) B.1 B.2.1 B.2.2.2.2.1 iw_Obj ty_Obj tyok_Obj nm_Obj B.2.2.2.1 B.2.2.2.2.2.1 hP hD hS (pObj i) (ed_w_Obj h) rfl 9 (by decide) (B.2.2.2.2.1 _ hlink) (fun _ q => q) rfl (by decide +kernel) rfl rfl (Nat.le_of_ble_eq_true rfl) hdg (fun H1 locs1 hP1 hD1 hS1 => ?_)
  have q0 := ed_w_set (ad := ad) (ca := ca) (σ := σ) (σ2 := ed_st σ 29 i 0 v) (ed_lt_Obj h) (ed_ct_Obj h) (fun z hz => ed_ct_st hz)
  have q1 : cObj ad ca (ed_st σ 29 i 0 v) i = .inr (0, List.set [.ref (ad (pRul i)), .ref (ad (pRow (16 + i))), .int (σ 22 i 0), .int (σ 23 i 0), .int (σ 24 i 0), .int (σ 25 i 0), .int (σ 26 i 0), .int (σ 27 i 0), .int (σ 28 i 0), .int (σ 29 i 0)] 9 (.int v)) := by simp [cObj, ed_st]
  rw [q1] at q0
  rw [q0] at hP1 hD1
  exact kk H1 locs1 hP1 hD1 hS1
theorem ed_rc_Obj (B : ed_B p s m args meth c cc own nL D ca) (hP : va_P D vwCl (ed_w ad ca σ) H) (h : i < 16) : ∃ cell : Cell, H[ad (pObj i)]? = some cell ∧ cell.vm.isStatics = false ∧ s.vm.findClass "ExecutiveDesk$ObjectState" = some cell.cls := va_recv B.2.2.2.2.2.1 hP (ci := 0) (q0 := pObj i) rfl (ed_w_Obj h)
theorem gf_Rul_kinds (B : ed_B p s m args meth c cc own nL D ca) (hP : va_P D vwCl (ed_w ad ca σ) H) (h : i < 16) (hlink : Cond.fieldLink own index "ExecutiveDesk$RuleList" "kinds" "[I" ∈ ed_tb) (hdg : decode cc pc = .ok (.getfield index, 3))
    (kk : W p l e R s m args below meth c H locs cells slots Q (F0 m (pc + 3) ls (.ref (ad (pRKi i)) :: rest))) : W p l e R s m args below meth c H locs cells slots Q (F0 m pc ls (.ref (ad (pRul i)) :: rest)) :=
  va_get (D := D) (ci := 3) (C := "ExecutiveDesk$RuleList") (T := T_Rul) (N := 4) B.1 B.2.1 B.2.2.2.2.1 iw_Rul B.2.2.2.1 B.2.2.2.2.2.1 hP (pRul i) (ed_w_Rul h) rfl 0 (by decide) (B.2.2.2.2.1 _ hlink) (fun _ q => q) rfl hdg kk
theorem gf_Rul_groups (B : ed_B p s m args meth c cc own nL D ca) (hP : va_P D vwCl (ed_w ad ca σ) H) (h : i < 16) (hlink : Cond.fieldLink own index "ExecutiveDesk$RuleList" "groups" "[I" ∈ ed_tb) (hdg : decode cc pc = .ok (.getfield index, 3))
    (kk : W p l e R s m args below meth c H locs cells slots Q (F0 m (pc + 3) ls (.ref (ad (pRGr i)) :: rest))) : W p l e R s m args below meth c H locs cells slots Q (F0 m pc ls (.ref (ad (pRul i)) :: rest)) :=
  va_get (D := D) (ci := 3) (C := "ExecutiveDesk$RuleList") (T := T_Rul) (N := 4) B.1 B.2.1 B.2.2.2.2.1 iw_Rul B.2.2.2.1 B.2.2.2.2.2.1 hP (pRul i) (ed_w_Rul h) rfl 1 (by decide) (B.2.2.2.2.1 _ hlink) (fun _ q => q) rfl hdg kk
theorem gf_Rul_rights (B : ed_B p s m args meth c cc own nL D ca) (hP : va_P D vwCl (ed_w ad ca σ) H) (h : i < 16) (hlink : Cond.fieldLink own index "ExecutiveDesk$RuleList" "rights" "[I" ∈ ed_tb) (hdg : decode cc pc = .ok (.getfield index, 3))
    (kk : W p l e R s m args below meth c H locs cells slots Q (F0 m (pc + 3) ls (.ref (ad (pRRi i)) :: rest))) : W p l e R s m args below meth c H locs cells slots Q (F0 m pc ls (.ref (ad (pRul i)) :: rest)) :=
  va_get (D := D) (ci := 3) (C := "ExecutiveDesk$RuleList") (T := T_Rul) (N := 4) B.1 B.2.1 B.2.2.2.2.1 iw_Rul B.2.2.2.1 B.2.2.2.2.2.1 hP (pRul i) (ed_w_Rul h) rfl 2 (by decide) (B.2.2.2.2.1 _ hlink) (fun _ q => q) rfl hdg kk
theorem gf_Rul_size (B : ed_B p s m args meth c cc own nL D ca) (hP : va_P D vwCl (ed_w ad ca σ) H) (h : i < 16) (hlink : Cond.fieldLink own index "ExecutiveDesk$RuleList" "size" "I" ∈ ed_tb) (hdg : decode cc pc = .ok (.getfield index, 3))
    (kk : W p l e R s m args below meth c H locs cells slots Q (F0 m (pc + 3) ls (.int (σ 30 i 0) :: rest))) : W p l e R s m args below meth c H locs cells slots Q (F0 m pc ls (.ref (ad (pRul i)) :: rest)) :=
  va_get (D := D) (ci := 3) (C := "ExecutiveDesk$RuleList") (T := T_Rul) (N := 4) B.1 B.2.1 B.2.2.2.2.1 iw_Rul B.2.2.2.1 B.2.2.2.2.2.1 hP (pRul i) (ed_w_Rul h) rfl 3 (by decide) (B.2.2.2.2.1 _ hlink) (fun _ q => q) rfl hdg kk
theorem pf_Rul_size (B : ed_B p s m args meth c cc own nL D ca) (hP : va_P D vwCl (ed_w ad ca σ) H) (hD : va_D A (ed_w ad ca σ)) (hS : va_S A s.heap H locs) (h : i < 16) (eq : σ1 = ed_st σ 30 i 0 v) (hlink : Cond.fieldLink own index "ExecutiveDesk$RuleList" "size" "I" ∈ ed_tb) (hdg : decode cc pc = .ok (.putfield index, 3))
    (kk : ∀ (H1 : Heap) (locs1 : List Loc), va_P D vwCl (ed_w ad ca σ1) H1 → va_D A (ed_w ad ca σ1) → va_S A s.heap H1 locs1 → W p l e R s m args below meth c H1 locs1 cells slots Q (F0 m (pc + 3) ls rest)) : W p l e R s m args below meth c H locs cells slots Q (F0 m pc ls (.int v :: .ref (ad (pRul i)) :: rest)) := by
  subst eq
  refine va_put (D := D) (ci := 3) (C := "ExecutiveDesk$RuleList") (T := T_Rul) (N := 4) (v := .int v) (ty := .int) B.1 B.2.1 B.2.2.2.2.1 iw_Rul ty_Rul tyok_Rul nm_Rul B.2.2.2.1 B.2.2.2.2.2.1 hP hD hS (pRul i) (ed_w_Rul h) rfl 3 (by decide) (B.2.2.2.2.1 _ hlink) (fun _ q => q) rfl (by decide +kernel) rfl rfl (Nat.le_of_ble_eq_true rfl) hdg (fun H1 locs1 hP1 hD1 hS1 => ?_)
  have q0 := ed_w_set (ad := ad) (ca := ca) (σ := σ) (σ2 := ed_st σ 30 i 0 v) (ed_lt_Rul h) (ed_ct_Rul h) (fun z hz => ed_ct_st hz)
  have q1 : cRul ad ca (ed_st σ 30 i 0 v) i = .inr (3, List.set [.ref (ad (pRKi i)), .ref (ad (pRGr i)), .ref (ad (pRRi i)), .int (σ 30 i 0)] 3 (.int v)) := by simp [cRul, ed_st]
  rw [q1] at q0
  rw [q0] at hP1 hD1
  exact kk H1 locs1 hP1 hD1 hS1
theorem ed_rc_Rul (B : ed_B p s m args meth c cc own nL D ca) (hP : va_P D vwCl (ed_w ad ca σ) H) (h : i < 16) : ∃ cell : Cell, H[ad (pRul i)]? = some cell ∧ cell.vm.isStatics = false ∧ s.vm.findClass "ExecutiveDesk$RuleList" = some cell.cls := va_recv B.2.2.2.2.2.1 hP (ci := 3) (q0 := pRul i) rfl (ed_w_Rul h)
theorem gf_Tra_status (B : ed_B p s m args meth c cc own nL D ca) (hP : va_P D vwCl (ed_w ad ca σ) H) (h : i < 8) (hlink : Cond.fieldLink own index "ExecutiveDesk$TransferState" "status" "I" ∈ ed_tb) (hdg : decode cc pc = .ok (.getfield index, 3))
    (kk : W p l e R s m args below meth c H locs cells slots Q (F0 m (pc + 3) ls (.int (σ 31 i 0) :: rest))) : W p l e R s m args below meth c H locs cells slots Q (F0 m pc ls (.ref (ad (pTra i)) :: rest)) :=
  va_get (D := D) (ci := 6) (C := "ExecutiveDesk$TransferState") (T := T_Tra) (N := 8) B.1 B.2.1 B.2.2.2.2.1 iw_Tra B.2.2.2.1 B.2.2.2.2.2.1 hP (pTra i) (ed_w_Tra h) rfl 0 (by decide) (B.2.2.2.2.1 _ hlink) (fun _ q => q) rfl hdg kk
theorem pf_Tra_status (B : ed_B p s m args meth c cc own nL D ca) (hP : va_P D vwCl (ed_w ad ca σ) H) (hD : va_D A (ed_w ad ca σ)) (hS : va_S A s.heap H locs) (h : i < 8) (eq : σ1 = ed_st σ 31 i 0 v) (hlink : Cond.fieldLink own index "ExecutiveDesk$TransferState" "status" "I" ∈ ed_tb) (hdg : decode cc pc = .ok (.putfield index, 3))
    (kk : ∀ (H1 : Heap) (locs1 : List Loc), va_P D vwCl (ed_w ad ca σ1) H1 → va_D A (ed_w ad ca σ1) → va_S A s.heap H1 locs1 → W p l e R s m args below meth c H1 locs1 cells slots Q (F0 m (pc + 3) ls rest)) : W p l e R s m args below meth c H locs cells slots Q (F0 m pc ls (.int v :: .ref (ad (pTra i)) :: rest)) := by
  subst eq
  refine va_put (D := D) (ci := 6) (C := "ExecutiveDesk$TransferState") (T := T_Tra) (N := 8) (v := .int v) (ty := .int) B.1 B.2.1 B.2.2.2.2.1 iw_Tra ty_Tra tyok_Tra nm_Tra B.2.2.2.1 B.2.2.2.2.2.1 hP hD hS (pTra i) (ed_w_Tra h) rfl 0 (by decide) (B.2.2.2.2.1 _ hlink) (fun _ q => q) rfl (by decide +kernel) rfl rfl (Nat.le_of_ble_eq_true rfl) hdg (fun H1 locs1 hP1 hD1 hS1 => ?_)
  have q0 := ed_w_set (ad := ad) (ca := ca) (σ := σ) (σ2 := ed_st σ 31 i 0 v) (ed_lt_Tra h) (ed_ct_Tra h) (fun z hz => ed_ct_st hz)
  have q1 : cTra ad ca (ed_st σ 31 i 0 v) i = .inr (6, List.set [.int (σ 31 i 0), .int (σ 32 i 0), .int (σ 33 i 0), .int (σ 34 i 0), .int (σ 35 i 0), .int (σ 36 i 0), .int (σ 37 i 0), .int (σ 38 i 0)] 0 (.int v)) := by simp [cTra, ed_st]
  rw [q1] at q0
  rw [q0] at hP1 hD1
  exact kk H1 locs1 hP1 hD1 hS1
theorem gf_Tra_amount (B : ed_B p s m args meth c cc own nL D ca) (hP : va_P D vwCl (ed_w ad ca σ) H) (h : i < 8) (hlink : Cond.fieldLink own index "ExecutiveDesk$TransferState" "amount" "I" ∈ ed_tb) (hdg : decode cc pc = .ok (.getfield index, 3))
    (kk : W p l e R s m args below meth c H locs cells slots Q (F0 m (pc + 3) ls (.int (σ 32 i 0) :: rest))) : W p l e R s m args below meth c H locs cells slots Q (F0 m pc ls (.ref (ad (pTra i)) :: rest)) :=
  va_get (D := D) (ci := 6) (C := "ExecutiveDesk$TransferState") (T := T_Tra) (N := 8) B.1 B.2.1 B.2.2.2.2.1 iw_Tra B.2.2.2.1 B.2.2.2.2.2.1 hP (pTra i) (ed_w_Tra h) rfl 1 (by decide) (B.2.2.2.2.1 _ hlink) (fun _ q => q) rfl hdg kk
theorem pf_Tra_amount (B : ed_B p s m args meth c cc own nL D ca) (hP : va_P D vwCl (ed_w ad ca σ) H) (hD : va_D A (ed_w ad ca σ)) (hS : va_S A s.heap H locs) (h : i < 8) (eq : σ1 = ed_st σ 32 i 0 v) (hlink : Cond.fieldLink own index "ExecutiveDesk$TransferState" "amount" "I" ∈ ed_tb) (hdg : decode cc pc = .ok (.putfield index, 3))
    (kk : ∀ (H1 : Heap) (locs1 : List Loc), va_P D vwCl (ed_w ad ca σ1) H1 → va_D A (ed_w ad ca σ1) → va_S A s.heap H1 locs1 → W p l e R s m args below meth c H1 locs1 cells slots Q (F0 m (pc + 3) ls rest)) : W p l e R s m args below meth c H locs cells slots Q (F0 m pc ls (.int v :: .ref (ad (pTra i)) :: rest)) := by
  subst eq
  refine va_put (D := D) (ci := 6) (C := "ExecutiveDesk$TransferState") (T := T_Tra) (N := 8) (v := .int v) (ty := .int) B.1 B.2.1 B.2.2.2.2.1 iw_Tra ty_Tra tyok_Tra nm_Tra B.2.2.2.1 B.2.2.2.2.2.1 hP hD hS (pTra i) (ed_w_Tra h) rfl 1 (by decide) (B.2.2.2.2.1 _ hlink) (fun _ q => q) rfl (by decide +kernel) rfl rfl (Nat.le_of_ble_eq_true rfl) hdg (fun H1 locs1 hP1 hD1 hS1 => ?_)
  have q0 := ed_w_set (ad := ad) (ca := ca) (σ := σ) (σ2 := ed_st σ 32 i 0 v) (ed_lt_Tra h) (ed_ct_Tra h) (fun z hz => ed_ct_st hz)
  have q1 : cTra ad ca (ed_st σ 32 i 0 v) i = .inr (6, List.set [.int (σ 31 i 0), .int (σ 32 i 0), .int (σ 33 i 0), .int (σ 34 i 0), .int (σ 35 i 0), .int (σ 36 i 0), .int (σ 37 i 0), .int (σ 38 i 0)] 1 (.int v)) := by simp [cTra, ed_st]
  rw [q1] at q0
  rw [q0] at hP1 hD1
  exact kk H1 locs1 hP1 hD1 hS1
theorem gf_Tra_thread (B : ed_B p s m args meth c cc own nL D ca) (hP : va_P D vwCl (ed_w ad ca σ) H) (h : i < 8) (hlink : Cond.fieldLink own index "ExecutiveDesk$TransferState" "thread" "I" ∈ ed_tb) (hdg : decode cc pc = .ok (.getfield index, 3))
    (kk : W p l e R s m args below meth c H locs cells slots Q (F0 m (pc + 3) ls (.int (σ 33 i 0) :: rest))) : W p l e R s m args below meth c H locs cells slots Q (F0 m pc ls (.ref (ad (pTra i)) :: rest)) :=
  va_get (D := D) (ci := 6) (C := "ExecutiveDesk$TransferState") (T := T_Tra) (N := 8) B.1 B.2.1 B.2.2.2.2.1 iw_Tra B.2.2.2.1 B.2.2.2.2.2.1 hP (pTra i) (ed_w_Tra h) rfl 2 (by decide) (B.2.2.2.2.1 _ hlink) (fun _ q => q) rfl hdg kk
theorem pf_Tra_thread (B : ed_B p s m args meth c cc own nL D ca) (hP : va_P D vwCl (ed_w ad ca σ) H) (hD : va_D A (ed_w ad ca σ)) (hS : va_S A s.heap H locs) (h : i < 8) (eq : σ1 = ed_st σ 33 i 0 v) (hlink : Cond.fieldLink own index "ExecutiveDesk$TransferState" "thread" "I" ∈ ed_tb) (hdg : decode cc pc = .ok (.putfield index, 3))
    (kk : ∀ (H1 : Heap) (locs1 : List Loc), va_P D vwCl (ed_w ad ca σ1) H1 → va_D A (ed_w ad ca σ1) → va_S A s.heap H1 locs1 → W p l e R s m args below meth c H1 locs1 cells slots Q (F0 m (pc + 3) ls rest)) : W p l e R s m args below meth c H locs cells slots Q (F0 m pc ls (.int v :: .ref (ad (pTra i)) :: rest)) := by
  subst eq
  refine va_put (D := D) (ci := 6) (C := "ExecutiveDesk$TransferState") (T := T_Tra) (N := 8) (v := .int v) (ty := .int) B.1 B.2.1 B.2.2.2.2.1 iw_Tra ty_Tra tyok_Tra nm_Tra B.2.2.2.1 B.2.2.2.2.2.1 hP hD hS (pTra i) (ed_w_Tra h) rfl 2 (by decide) (B.2.2.2.2.1 _ hlink) (fun _ q => q) rfl (by decide +kernel) rfl rfl (Nat.le_of_ble_eq_true rfl) hdg (fun H1 locs1 hP1 hD1 hS1 => ?_)
  have q0 := ed_w_set (ad := ad) (ca := ca) (σ := σ) (σ2 := ed_st σ 33 i 0 v) (ed_lt_Tra h) (ed_ct_Tra h) (fun z hz => ed_ct_st hz)
  have q1 : cTra ad ca (ed_st σ 33 i 0 v) i = .inr (6, List.set [.int (σ 31 i 0), .int (σ 32 i 0), .int (σ 33 i 0), .int (σ 34 i 0), .int (σ 35 i 0), .int (σ 36 i 0), .int (σ 37 i 0), .int (σ 38 i 0)] 2 (.int v)) := by simp [cTra, ed_st]
  rw [q1] at q0
  rw [q0] at hP1 hD1
  exact kk H1 locs1 hP1 hD1 hS1
theorem gf_Tra_device (B : ed_B p s m args meth c cc own nL D ca) (hP : va_P D vwCl (ed_w ad ca σ) H) (h : i < 8) (hlink : Cond.fieldLink own index "ExecutiveDesk$TransferState" "device" "I" ∈ ed_tb) (hdg : decode cc pc = .ok (.getfield index, 3))
    (kk : W p l e R s m args below meth c H locs cells slots Q (F0 m (pc + 3) ls (.int (σ 34 i 0) :: rest))) : W p l e R s m args below meth c H locs cells slots Q (F0 m pc ls (.ref (ad (pTra i)) :: rest)) :=
  va_get (D := D) (ci := 6) (C := "ExecutiveDesk$TransferState") (T := T_Tra) (N := 8) B.1 B.2.1 B.2.2.2.2.1 iw_Tra B.2.2.2.1 B.2.2.2.2.2.1 hP (pTra i) (ed_w_Tra h) rfl 3 (by decide) (B.2.2.2.2.1 _ hlink) (fun _ q => q) rfl hdg kk
theorem pf_Tra_device (B : ed_B p s m args meth c cc own nL D ca) (hP : va_P D vwCl (ed_w ad ca σ) H) (hD : va_D A (ed_w ad ca σ)) (hS : va_S A s.heap H locs) (h : i < 8) (eq : σ1 = ed_st σ 34 i 0 v) (hlink : Cond.fieldLink own index "ExecutiveDesk$TransferState" "device" "I" ∈ ed_tb) (hdg : decode cc pc = .ok (.putfield index, 3))
    (kk : ∀ (H1 : Heap) (locs1 : List Loc), va_P D vwCl (ed_w ad ca σ1) H1 → va_D A (ed_w ad ca σ1) → va_S A s.heap H1 locs1 → W p l e R s m args below meth c H1 locs1 cells slots Q (F0 m (pc + 3) ls rest)) : W p l e R s m args below meth c H locs cells slots Q (F0 m pc ls (.int v :: .ref (ad (pTra i)) :: rest)) := by
  subst eq
  refine va_put (D := D) (ci := 6) (C := "ExecutiveDesk$TransferState") (T := T_Tra) (N := 8) (v := .int v) (ty := .int) B.1 B.2.1 B.2.2.2.2.1 iw_Tra ty_Tra tyok_Tra nm_Tra B.2.2.2.1 B.2.2.2.2.2.1 hP hD hS (pTra i) (ed_w_Tra h) rfl 3 (by decide) (B.2.2.2.2.1 _ hlink) (fun _ q => q) rfl (by decide +kernel) rfl rfl (Nat.le_of_ble_eq_true rfl) hdg (fun H1 locs1 hP1 hD1 hS1 => ?_)
  have q0 := ed_w_set (ad := ad) (ca := ca) (σ := σ) (σ2 := ed_st σ 34 i 0 v) (ed_lt_Tra h) (ed_ct_Tra h) (fun z hz => ed_ct_st hz)
  have q1 : cTra ad ca (ed_st σ 34 i 0 v) i = .inr (6, List.set [.int (σ 31 i 0), .int (σ 32 i 0), .int (σ 33 i 0), .int (σ 34 i 0), .int (σ 35 i 0), .int (σ 36 i 0), .int (σ 37 i 0), .int (σ 38 i 0)] 3 (.int v)) := by simp [cTra, ed_st]
  rw [q1] at q0
  rw [q0] at hP1 hD1
  exact kk H1 locs1 hP1 hD1 hS1
theorem gf_Tra_length (B : ed_B p s m args meth c cc own nL D ca) (hP : va_P D vwCl (ed_w ad ca σ) H) (h : i < 8) (hlink : Cond.fieldLink own index "ExecutiveDesk$TransferState" "length" "I" ∈ ed_tb) (hdg : decode cc pc = .ok (.getfield index, 3))
    (kk : W p l e R s m args below meth c H locs cells slots Q (F0 m (pc + 3) ls (.int (σ 35 i 0) :: rest))) : W p l e R s m args below meth c H locs cells slots Q (F0 m pc ls (.ref (ad (pTra i)) :: rest)) :=
  va_get (D := D) (ci := 6) (C := "ExecutiveDesk$TransferState") (T := T_Tra) (N := 8) B.1 B.2.1 B.2.2.2.2.1 iw_Tra B.2.2.2.1 B.2.2.2.2.2.1 hP (pTra i) (ed_w_Tra h) rfl 4 (by decide) (B.2.2.2.2.1 _ hlink) (fun _ q => q) rfl hdg kk
theorem pf_Tra_length (B : ed_B p s m args meth c cc own nL D ca) (hP : va_P D vwCl (ed_w ad ca σ) H) (hD : va_D A (ed_w ad ca σ)) (hS : va_S A s.heap H locs) (h : i < 8) (eq : σ1 = ed_st σ 35 i 0 v) (hlink : Cond.fieldLink own index "ExecutiveDesk$TransferState" "length" "I" ∈ ed_tb) (hdg : decode cc pc = .ok (.putfield index, 3))
    (kk : ∀ (H1 : Heap) (locs1 : List Loc), va_P D vwCl (ed_w ad ca σ1) H1 → va_D A (ed_w ad ca σ1) → va_S A s.heap H1 locs1 → W p l e R s m args below meth c H1 locs1 cells slots Q (F0 m (pc + 3) ls rest)) : W p l e R s m args below meth c H locs cells slots Q (F0 m pc ls (.int v :: .ref (ad (pTra i)) :: rest)) := by
  subst eq
  refine va_put (D := D) (ci := 6) (C := "ExecutiveDesk$TransferState") (T := T_Tra) (N := 8) (v := .int v) (ty := .int) B.1 B.2.1 B.2.2.2.2.1 iw_Tra ty_Tra tyok_Tra nm_Tra B.2.2.2.1 B.2.2.2.2.2.1 hP hD hS (pTra i) (ed_w_Tra h) rfl 4 (by decide) (B.2.2.2.2.1 _ hlink) (fun _ q => q) rfl (by decide +kernel) rfl rfl (Nat.le_of_ble_eq_true rfl) hdg (fun H1 locs1 hP1 hD1 hS1 => ?_)
  have q0 := ed_w_set (ad := ad) (ca := ca) (σ := σ) (σ2 := ed_st σ 35 i 0 v) (ed_lt_Tra h) (ed_ct_Tra h) (fun z hz => ed_ct_st hz)
  have q1 : cTra ad ca (ed_st σ 35 i 0 v) i = .inr (6, List.set [.int (σ 31 i 0), .int (σ 32 i 0), .int (σ 33 i 0), .int (σ 34 i 0), .int (σ 35 i 0), .int (σ 36 i 0), .int (σ 37 i 0), .int (σ 38 i 0)] 4 (.int v)) := by simp [cTra, ed_st]
  rw [q1] at q0
  rw [q0] at hP1 hD1
  exact kk H1 locs1 hP1 hD1 hS1
theorem gf_Tra_target (B : ed_B p s m args meth c cc own nL D ca) (hP : va_P D vwCl (ed_w ad ca σ) H) (h : i < 8) (hlink : Cond.fieldLink own index "ExecutiveDesk$TransferState" "target" "I" ∈ ed_tb) (hdg : decode cc pc = .ok (.getfield index, 3))
    (kk : W p l e R s m args below meth c H locs cells slots Q (F0 m (pc + 3) ls (.int (σ 36 i 0) :: rest))) : W p l e R s m args below meth c H locs cells slots Q (F0 m pc ls (.ref (ad (pTra i)) :: rest)) :=
  va_get (D := D) (ci := 6) (C := "ExecutiveDesk$TransferState") (T := T_Tra) (N := 8) B.1 B.2.1 B.2.2.2.2.1 iw_Tra B.2.2.2.1 B.2.2.2.2.2.1 hP (pTra i) (ed_w_Tra h) rfl 5 (by decide) (B.2.2.2.2.1 _ hlink) (fun _ q => q) rfl hdg kk
theorem pf_Tra_target (B : ed_B p s m args meth c cc own nL D ca) (hP : va_P D vwCl (ed_w ad ca σ) H) (hD : va_D A (ed_w ad ca σ)) (hS : va_S A s.heap H locs) (h : i < 8) (eq : σ1 = ed_st σ 36 i 0 v) (hlink : Cond.fieldLink own index "ExecutiveDesk$TransferState" "target" "I" ∈ ed_tb) (hdg : decode cc pc = .ok (.putfield index, 3))
    (kk : ∀ (H1 : Heap) (locs1 : List Loc), va_P D vwCl (ed_w ad ca σ1) H1 → va_D A (ed_w ad ca σ1) → va_S A s.heap H1 locs1 → W p l e R s m args below meth c H1 locs1 cells slots Q (F0 m (pc + 3) ls rest)) : W p l e R s m args below meth c H locs cells slots Q (F0 m pc ls (.int v :: .ref (ad (pTra i)) :: rest)) := by
  subst eq
  refine va_put (D := D) (ci := 6) (C := "ExecutiveDesk$TransferState") (T := T_Tra) (N := 8) (v := .int v) (ty := .int) B.1 B.2.1 B.2.2.2.2.1 iw_Tra ty_Tra tyok_Tra nm_Tra B.2.2.2.1 B.2.2.2.2.2.1 hP hD hS (pTra i) (ed_w_Tra h) rfl 5 (by decide) (B.2.2.2.2.1 _ hlink) (fun _ q => q) rfl (by decide +kernel) rfl rfl (Nat.le_of_ble_eq_true rfl) hdg (fun H1 locs1 hP1 hD1 hS1 => ?_)
  have q0 := ed_w_set (ad := ad) (ca := ca) (σ := σ) (σ2 := ed_st σ 36 i 0 v) (ed_lt_Tra h) (ed_ct_Tra h) (fun z hz => ed_ct_st hz)
  have q1 : cTra ad ca (ed_st σ 36 i 0 v) i = .inr (6, List.set [.int (σ 31 i 0), .int (σ 32 i 0), .int (σ 33 i 0), .int (σ 34 i 0), .int (σ 35 i 0), .int (σ 36 i 0), .int (σ 37 i 0), .int (σ 38 i 0)] 5 (.int v)) := by simp [cTra, ed_st]
  rw [q1] at q0
  rw [q0] at hP1 hD1
  exact kk H1 locs1 hP1 hD1 hS1
theorem gf_Tra_toBeCancelled (B : ed_B p s m args meth c cc own nL D ca) (hP : va_P D vwCl (ed_w ad ca σ) H) (h : i < 8) (hlink : Cond.fieldLink own index "ExecutiveDesk$TransferState" "toBeCancelled" "Z" ∈ ed_tb) (hdg : decode cc pc = .ok (.getfield index, 3))
    (kk : W p l e R s m args below meth c H locs cells slots Q (F0 m (pc + 3) ls (.int (σ 37 i 0) :: rest))) : W p l e R s m args below meth c H locs cells slots Q (F0 m pc ls (.ref (ad (pTra i)) :: rest)) :=
  va_get (D := D) (ci := 6) (C := "ExecutiveDesk$TransferState") (T := T_Tra) (N := 8) B.1 B.2.1 B.2.2.2.2.1 iw_Tra B.2.2.2.1 B.2.2.2.2.2.1 hP (pTra i) (ed_w_Tra h) rfl 6 (by decide) (B.2.2.2.2.1 _ hlink) (fun _ q => q) rfl hdg kk
theorem pf_Tra_toBeCancelled (B : ed_B p s m args meth c cc own nL D ca) (hP : va_P D vwCl (ed_w ad ca σ) H) (hD : va_D A (ed_w ad ca σ)) (hS : va_S A s.heap H locs) (h : i < 8) (z : v = 0 ∨ v = 1) (eq : σ1 = ed_st σ 37 i 0 v) (hlink : Cond.fieldLink own index "ExecutiveDesk$TransferState" "toBeCancelled" "Z" ∈ ed_tb) (hdg : decode cc pc = .ok (.putfield index, 3))
    (kk : ∀ (H1 : Heap) (locs1 : List Loc), va_P D vwCl (ed_w ad ca σ1) H1 → va_D A (ed_w ad ca σ1) → va_S A s.heap H1 locs1 → W p l e R s m args below meth c H1 locs1 cells slots Q (F0 m (pc + 3) ls rest)) : W p l e R s m args below meth c H locs cells slots Q (F0 m pc ls (.int v :: .ref (ad (pTra i)) :: rest)) := by
  subst eq
  refine va_put (D := D) (ci := 6) (C := "ExecutiveDesk$TransferState") (T := T_Tra) (N := 8) (v := .int v) (ty := .boolean) B.1 B.2.1 B.2.2.2.2.1 iw_Tra ty_Tra tyok_Tra nm_Tra B.2.2.2.1 B.2.2.2.2.2.1 hP hD hS (pTra i) (ed_w_Tra h) rfl 6 (by decide) (B.2.2.2.2.1 _ hlink) (fun _ q => q) rfl (by decide +kernel) (by rcases z with rfl | rfl <;> rfl) (by rcases z with rfl | rfl <;> rfl) (Nat.le_of_ble_eq_true rfl) hdg (fun H1 locs1 hP1 hD1 hS1 => ?_)
  have q0 := ed_w_set (ad := ad) (ca := ca) (σ := σ) (σ2 := ed_st σ 37 i 0 v) (ed_lt_Tra h) (ed_ct_Tra h) (fun z hz => ed_ct_st hz)
  have q1 : cTra ad ca (ed_st σ 37 i 0 v) i = .inr (6, List.set [.int (σ 31 i 0), .int (σ 32 i 0), .int (σ 33 i 0), .int (σ 34 i 0), .int (σ 35 i 0), .int (σ 36 i 0), .int (σ 37 i 0), .int (σ 38 i 0)] 6 (.int v)) := by simp [cTra, ed_st]
  rw [q1] at q0
  rw [q0] at hP1 hD1
  exact kk H1 locs1 hP1 hD1 hS1
theorem gf_Tra_retried (B : ed_B p s m args meth c cc own nL D ca) (hP : va_P D vwCl (ed_w ad ca σ) H) (h : i < 8) (hlink : Cond.fieldLink own index "ExecutiveDesk$TransferState" "retried" "Z" ∈ ed_tb) (hdg : decode cc pc = .ok (.getfield index, 3))
    (kk : W p l e R s m args below meth c H locs cells slots Q (F0 m (pc + 3) ls (.int (σ 38 i 0) :: rest))) : W p l e R s m args below meth c H locs cells slots Q (F0 m pc ls (.ref (ad (pTra i)) :: rest)) :=
  va_get (D := D) (ci := 6) (C := "ExecutiveDesk$TransferState") (T := T_Tra) (N := 8) B.1 B.2.1 B.2.2.2.2.1 iw_Tra B.2.2.2.1 B.2.2.2.2.2.1 hP (pTra i) (ed_w_Tra h) rfl 7 (by decide) (B.2.2.2.2.1 _ hlink) (fun _ q => q) rfl hdg kk
theorem pf_Tra_retried (B : ed_B p s m args meth c cc own nL D ca) (hP : va_P D vwCl (ed_w ad ca σ) H) (hD : va_D A (ed_w ad ca σ)) (hS : va_S A s.heap H locs) (h : i < 8) (z : v = 0 ∨ v = 1) (eq : σ1 = ed_st σ 38 i 0 v) (hlink : Cond.fieldLink own index "ExecutiveDesk$TransferState" "retried" "Z" ∈ ed_tb) (hdg : decode cc pc = .ok (.putfield index, 3))
    (kk : ∀ (H1 : Heap) (locs1 : List Loc), va_P D vwCl (ed_w ad ca σ1) H1 → va_D A (ed_w ad ca σ1) → va_S A s.heap H1 locs1 → W p l e R s m args below meth c H1 locs1 cells slots Q (F0 m (pc + 3) ls rest)) : W p l e R s m args below meth c H locs cells slots Q (F0 m pc ls (.int v :: .ref (ad (pTra i)) :: rest)) := by
  subst eq
  refine va_put (D := D) (ci := 6) (C := "ExecutiveDesk$TransferState") (T := T_Tra) (N := 8) (v := .int v) (ty := .boolean) B.1 B.2.1 B.2.2.2.2.1 iw_Tra ty_Tra tyok_Tra nm_Tra B.2.2.2.1 B.2.2.2.2.2.1 hP hD hS (pTra i) (ed_w_Tra h) rfl 7 (by decide) (B.2.2.2.2.1 _ hlink) (fun _ q => q) rfl (by decide +kernel) (by rcases z with rfl | rfl <;> rfl) (by rcases z with rfl | rfl <;> rfl) (Nat.le_of_ble_eq_true rfl) hdg (fun H1 locs1 hP1 hD1 hS1 => ?_)
  have q0 := ed_w_set (ad := ad) (ca := ca) (σ := σ) (σ2 := ed_st σ 38 i 0 v) (ed_lt_Tra h) (ed_ct_Tra h) (fun z hz => ed_ct_st hz)
  have q1 : cTra ad ca (ed_st σ 38 i 0 v) i = .inr (6, List.set [.int (σ 31 i 0), .int (σ 32 i 0), .int (σ 33 i 0), .int (σ 34 i 0), .int (σ 35 i 0), .int (σ 36 i 0), .int (σ 37 i 0), .int (σ 38 i 0)] 7 (.int v)) := by simp [cTra, ed_st]
  rw [q1] at q0
  rw [q0] at hP1 hD1
  exact kk H1 locs1 hP1 hD1 hS1
theorem ed_rc_Tra (B : ed_B p s m args meth c cc own nL D ca) (hP : va_P D vwCl (ed_w ad ca σ) H) (h : i < 8) : ∃ cell : Cell, H[ad (pTra i)]? = some cell ∧ cell.vm.isStatics = false ∧ s.vm.findClass "ExecutiveDesk$TransferState" = some cell.cls := va_recv B.2.2.2.2.2.1 hP (ci := 6) (q0 := pTra i) rfl (ed_w_Tra h)
theorem il_Itm (B : ed_B p s m args meth c cc own nL D ca) (hP : va_P D vwCl (ed_w ad ca σ) H) (h : i < 34) (hin : vp_in x (ed_cap i)) (hj : x.toNatClampNeg = j) (hdg : decode cc pc = .ok (.iaload, 1))
    (kk : W p l e R s m args below meth c H locs cells slots Q (F0 m (pc + 1) ls (.int (σ 39 i j) :: rest))) : W p l e R s m args below meth c H locs cells slots Q (F0 m pc ls (.int x :: .ref (ad (pItm i)) :: rest)) := by
  subst hj
  exact va_iald B.1 B.2.1 B.2.2.2.2.2.1 hP (pItm i) 0 (ed_w_Itm h) rfl hin hdg kk
theorem is_Itm (B : ed_B p s m args meth c cc own nL D ca) (hP : va_P D vwCl (ed_w ad ca σ) H) (hD : va_D A (ed_w ad ca σ)) (hS : va_S A s.heap H locs) (h : i < 34) (hin : vp_in x (ed_cap i)) (hj : x.toNatClampNeg = j) (eq : σ1 = ed_st σ 39 i j v) (hdg : decode cc pc = .ok (.iastore, 1))
    (kk : ∀ (H1 : Heap) (locs1 : List Loc), va_P D vwCl (ed_w ad ca σ1) H1 → va_D A (ed_w ad ca σ1) → va_S A s.heap H1 locs1 → W p l e R s m args below meth c H1 locs1 cells slots Q (F0 m (pc + 1) ls rest)) : W p l e R s m args below meth c H locs cells slots Q (F0 m pc ls (.int v :: .int x :: .ref (ad (pItm i)) :: rest)) := by
  subst eq
  subst hj
  refine va_iast B.1 B.2.1 B.2.2.2.2.2.1 hP hD hS (pItm i) 0 (ed_w_Itm h) rfl hin hdg (fun H1 locs1 hP1 hD1 hS1 => ?_)
  have q0 := ed_w_set (ad := ad) (ca := ca) (σ := σ) (σ2 := ed_st σ 39 i x.toNatClampNeg v) (ed_lt_Itm h) (ed_ct_Itm h) (fun z hz => ed_ct_st hz)
  have q1 : cItm ad ca (ed_st σ 39 i x.toNatClampNeg v) i = .inl (ca 0, (ed_cap i), .inl (upd (fun j => σ 39 i j) x.toNatClampNeg v)) := by
    show Sum.inl (ca 0, (ed_cap i), Sum.inl _) = Sum.inl (ca 0, (ed_cap i), Sum.inl _)
    congr 3
    refine congrArg Sum.inl ?_
    funext j
    simp [ed_st, upd]
  rw [q1] at q0
  rw [q0] at hP1 hD1
  exact kk H1 locs1 hP1 hD1 hS1
theorem an_Itm (B : ed_B p s m args meth c cc own nL D ca) (hP : va_P D vwCl (ed_w ad ca σ) H) (h : i < 34) (hdg : decode cc pc = .ok (.arraylength, 1))
    (kk : W p l e R s m args below meth c H locs cells slots Q (F0 m (pc + 1) ls (.int (nI (ed_cap i)) :: rest))) : W p l e R s m args below meth c H locs cells slots Q (F0 m pc ls (.ref (ad (pItm i)) :: rest)) :=
  va_alen B.1 B.2.1 B.2.2.2.2.2.1 hP (pItm i) 0 (ed_w_Itm h) rfl rfl hdg kk
theorem il_Plc (B : ed_B p s m args meth c cc own nL D ca) (hP : va_P D vwCl (ed_w ad ca σ) H) (h : i < 8) (hin : vp_in x 3) (hj : x.toNatClampNeg = j) (hdg : decode cc pc = .ok (.iaload, 1))
    (kk : W p l e R s m args below meth c H locs cells slots Q (F0 m (pc + 1) ls (.int (σ 40 i j) :: rest))) : W p l e R s m args below meth c H locs cells slots Q (F0 m pc ls (.int x :: .ref (ad (pPlc i)) :: rest)) := by
  subst hj
  exact va_iald B.1 B.2.1 B.2.2.2.2.2.1 hP (pPlc i) 0 (ed_w_Plc h) rfl hin hdg kk
theorem is_Plc (B : ed_B p s m args meth c cc own nL D ca) (hP : va_P D vwCl (ed_w ad ca σ) H) (hD : va_D A (ed_w ad ca σ)) (hS : va_S A s.heap H locs) (h : i < 8) (hin : vp_in x 3) (hj : x.toNatClampNeg = j) (eq : σ1 = ed_st σ 40 i j v) (hdg : decode cc pc = .ok (.iastore, 1))
    (kk : ∀ (H1 : Heap) (locs1 : List Loc), va_P D vwCl (ed_w ad ca σ1) H1 → va_D A (ed_w ad ca σ1) → va_S A s.heap H1 locs1 → W p l e R s m args below meth c H1 locs1 cells slots Q (F0 m (pc + 1) ls rest)) : W p l e R s m args below meth c H locs cells slots Q (F0 m pc ls (.int v :: .int x :: .ref (ad (pPlc i)) :: rest)) := by
  subst eq
  subst hj
  refine va_iast B.1 B.2.1 B.2.2.2.2.2.1 hP hD hS (pPlc i) 0 (ed_w_Plc h) rfl hin hdg (fun H1 locs1 hP1 hD1 hS1 => ?_)
  have q0 := ed_w_set (ad := ad) (ca := ca) (σ := σ) (σ2 := ed_st σ 40 i x.toNatClampNeg v) (ed_lt_Plc h) (ed_ct_Plc h) (fun z hz => ed_ct_st hz)
  have q1 : cPlc ad ca (ed_st σ 40 i x.toNatClampNeg v) i = .inl (ca 0, 3, .inl (upd (fun j => σ 40 i j) x.toNatClampNeg v)) := by
    show Sum.inl (ca 0, 3, Sum.inl _) = Sum.inl (ca 0, 3, Sum.inl _)
    congr 3
    refine congrArg Sum.inl ?_
    funext j
    simp [ed_st, upd]
  rw [q1] at q0
  rw [q0] at hP1 hD1
  exact kk H1 locs1 hP1 hD1 hS1
theorem an_Plc (B : ed_B p s m args meth c cc own nL D ca) (hP : va_P D vwCl (ed_w ad ca σ) H) (h : i < 8) (hdg : decode cc pc = .ok (.arraylength, 1))
    (kk : W p l e R s m args below meth c H locs cells slots Q (F0 m (pc + 1) ls (.int (nI 3) :: rest))) : W p l e R s m args below meth c H locs cells slots Q (F0 m pc ls (.ref (ad (pPlc i)) :: rest)) :=
  va_alen B.1 B.2.1 B.2.2.2.2.2.1 hP (pPlc i) 0 (ed_w_Plc h) rfl rfl hdg kk
theorem il_PHo (B : ed_B p s m args meth c cc own nL D ca) (hP : va_P D vwCl (ed_w ad ca σ) H) (h : i < 4) (hin : vp_in x 8) (hj : x.toNatClampNeg = j) (hdg : decode cc pc = .ok (.iaload, 1))
    (kk : W p l e R s m args below meth c H locs cells slots Q (F0 m (pc + 1) ls (.int (σ 41 i j) :: rest))) : W p l e R s m args below meth c H locs cells slots Q (F0 m pc ls (.int x :: .ref (ad (pPHo i)) :: rest)) := by
  subst hj
  exact va_iald B.1 B.2.1 B.2.2.2.2.2.1 hP (pPHo i) 0 (ed_w_PHo h) rfl hin hdg kk
theorem is_PHo (B : ed_B p s m args meth c cc own nL D ca) (hP : va_P D vwCl (ed_w ad ca σ) H) (hD : va_D A (ed_w ad ca σ)) (hS : va_S A s.heap H locs) (h : i < 4) (hin : vp_in x 8) (hj : x.toNatClampNeg = j) (eq : σ1 = ed_st σ 41 i j v) (hdg : decode cc pc = .ok (.iastore, 1))
    (kk : ∀ (H1 : Heap) (locs1 : List Loc), va_P D vwCl (ed_w ad ca σ1) H1 → va_D A (ed_w ad ca σ1) → va_S A s.heap H1 locs1 → W p l e R s m args below meth c H1 locs1 cells slots Q (F0 m (pc + 1) ls rest)) : W p l e R s m args below meth c H locs cells slots Q (F0 m pc ls (.int v :: .int x :: .ref (ad (pPHo i)) :: rest)) := by
  subst eq
  subst hj
  refine va_iast B.1 B.2.1 B.2.2.2.2.2.1 hP hD hS (pPHo i) 0 (ed_w_PHo h) rfl hin hdg (fun H1 locs1 hP1 hD1 hS1 => ?_)
  have q0 := ed_w_set (ad := ad) (ca := ca) (σ := σ) (σ2 := ed_st σ 41 i x.toNatClampNeg v) (ed_lt_PHo h) (ed_ct_PHo h) (fun z hz => ed_ct_st hz)
  have q1 : cPHo ad ca (ed_st σ 41 i x.toNatClampNeg v) i = .inl (ca 0, 8, .inl (upd (fun j => σ 41 i j) x.toNatClampNeg v)) := by
    show Sum.inl (ca 0, 8, Sum.inl _) = Sum.inl (ca 0, 8, Sum.inl _)
    congr 3
    refine congrArg Sum.inl ?_
    funext j
    simp [ed_st, upd]
  rw [q1] at q0
  rw [q0] at hP1 hD1
  exact kk H1 locs1 hP1 hD1 hS1
theorem an_PHo (B : ed_B p s m args meth c cc own nL D ca) (hP : va_P D vwCl (ed_w ad ca σ) H) (h : i < 4) (hdg : decode cc pc = .ok (.arraylength, 1))
    (kk : W p l e R s m args below meth c H locs cells slots Q (F0 m (pc + 1) ls (.int (nI 8) :: rest))) : W p l e R s m args below meth c H locs cells slots Q (F0 m pc ls (.ref (ad (pPHo i)) :: rest)) :=
  va_alen B.1 B.2.1 B.2.2.2.2.2.1 hP (pPHo i) 0 (ed_w_PHo h) rfl rfl hdg kk
theorem il_PRi (B : ed_B p s m args meth c cc own nL D ca) (hP : va_P D vwCl (ed_w ad ca σ) H) (h : i < 4) (hin : vp_in x 8) (hj : x.toNatClampNeg = j) (hdg : decode cc pc = .ok (.iaload, 1))
    (kk : W p l e R s m args below meth c H locs cells slots Q (F0 m (pc + 1) ls (.int (σ 42 i j) :: rest))) : W p l e R s m args below meth c H locs cells slots Q (F0 m pc ls (.int x :: .ref (ad (pPRi i)) :: rest)) := by
  subst hj
  exact va_iald B.1 B.2.1 B.2.2.2.2.2.1 hP (pPRi i) 0 (ed_w_PRi h) rfl hin hdg kk
theorem is_PRi (B : ed_B p s m args meth c cc own nL D ca) (hP : va_P D vwCl (ed_w ad ca σ) H) (hD : va_D A (ed_w ad ca σ)) (hS : va_S A s.heap H locs) (h : i < 4) (hin : vp_in x 8) (hj : x.toNatClampNeg = j) (eq : σ1 = ed_st σ 42 i j v) (hdg : decode cc pc = .ok (.iastore, 1))
    (kk : ∀ (H1 : Heap) (locs1 : List Loc), va_P D vwCl (ed_w ad ca σ1) H1 → va_D A (ed_w ad ca σ1) → va_S A s.heap H1 locs1 → W p l e R s m args below meth c H1 locs1 cells slots Q (F0 m (pc + 1) ls rest)) : W p l e R s m args below meth c H locs cells slots Q (F0 m pc ls (.int v :: .int x :: .ref (ad (pPRi i)) :: rest)) := by
  subst eq
  subst hj
  refine va_iast B.1 B.2.1 B.2.2.2.2.2.1 hP hD hS (pPRi i) 0 (ed_w_PRi h) rfl hin hdg (fun H1 locs1 hP1 hD1 hS1 => ?_)
  have q0 := ed_w_set (ad := ad) (ca := ca) (σ := σ) (σ2 := ed_st σ 42 i x.toNatClampNeg v) (ed_lt_PRi h) (ed_ct_PRi h) (fun z hz => ed_ct_st hz)
  have q1 : cPRi ad ca (ed_st σ 42 i x.toNatClampNeg v) i = .inl (ca 0, 8, .inl (upd (fun j => σ 42 i j) x.toNatClampNeg v)) := by
    show Sum.inl (ca 0, 8, Sum.inl _) = Sum.inl (ca 0, 8, Sum.inl _)
    congr 3
    refine congrArg Sum.inl ?_
    funext j
    simp [ed_st, upd]
  rw [q1] at q0
  rw [q0] at hP1 hD1
  exact kk H1 locs1 hP1 hD1 hS1
theorem an_PRi (B : ed_B p s m args meth c cc own nL D ca) (hP : va_P D vwCl (ed_w ad ca σ) H) (h : i < 4) (hdg : decode cc pc = .ok (.arraylength, 1))
    (kk : W p l e R s m args below meth c H locs cells slots Q (F0 m (pc + 1) ls (.int (nI 8) :: rest))) : W p l e R s m args below meth c H locs cells slots Q (F0 m pc ls (.ref (ad (pPRi i)) :: rest)) :=
  va_alen B.1 B.2.1 B.2.2.2.2.2.1 hP (pPRi i) 0 (ed_w_PRi h) rfl rfl hdg kk
theorem il_RKi (B : ed_B p s m args meth c cc own nL D ca) (hP : va_P D vwCl (ed_w ad ca σ) H) (h : i < 16) (hin : vp_in x 4) (hj : x.toNatClampNeg = j) (hdg : decode cc pc = .ok (.iaload, 1))
    (kk : W p l e R s m args below meth c H locs cells slots Q (F0 m (pc + 1) ls (.int (σ 43 i j) :: rest))) : W p l e R s m args below meth c H locs cells slots Q (F0 m pc ls (.int x :: .ref (ad (pRKi i)) :: rest)) := by
  subst hj
  exact va_iald B.1 B.2.1 B.2.2.2.2.2.1 hP (pRKi i) 0 (ed_w_RKi h) rfl hin hdg kk
theorem is_RKi (B : ed_B p s m args meth c cc own nL D ca) (hP : va_P D vwCl (ed_w ad ca σ) H) (hD : va_D A (ed_w ad ca σ)) (hS : va_S A s.heap H locs) (h : i < 16) (hin : vp_in x 4) (hj : x.toNatClampNeg = j) (eq : σ1 = ed_st σ 43 i j v) (hdg : decode cc pc = .ok (.iastore, 1))
    (kk : ∀ (H1 : Heap) (locs1 : List Loc), va_P D vwCl (ed_w ad ca σ1) H1 → va_D A (ed_w ad ca σ1) → va_S A s.heap H1 locs1 → W p l e R s m args below meth c H1 locs1 cells slots Q (F0 m (pc + 1) ls rest)) : W p l e R s m args below meth c H locs cells slots Q (F0 m pc ls (.int v :: .int x :: .ref (ad (pRKi i)) :: rest)) := by
  subst eq
  subst hj
  refine va_iast B.1 B.2.1 B.2.2.2.2.2.1 hP hD hS (pRKi i) 0 (ed_w_RKi h) rfl hin hdg (fun H1 locs1 hP1 hD1 hS1 => ?_)
  have q0 := ed_w_set (ad := ad) (ca := ca) (σ := σ) (σ2 := ed_st σ 43 i x.toNatClampNeg v) (ed_lt_RKi h) (ed_ct_RKi h) (fun z hz => ed_ct_st hz)
  have q1 : cRKi ad ca (ed_st σ 43 i x.toNatClampNeg v) i = .inl (ca 0, 4, .inl (upd (fun j => σ 43 i j) x.toNatClampNeg v)) := by
    show Sum.inl (ca 0, 4, Sum.inl _) = Sum.inl (ca 0, 4, Sum.inl _)
    congr 3
    refine congrArg Sum.inl ?_
    funext j
    simp [ed_st, upd]
  rw [q1] at q0
  rw [q0] at hP1 hD1
  exact kk H1 locs1 hP1 hD1 hS1
theorem an_RKi (B : ed_B p s m args meth c cc own nL D ca) (hP : va_P D vwCl (ed_w ad ca σ) H) (h : i < 16) (hdg : decode cc pc = .ok (.arraylength, 1))
    (kk : W p l e R s m args below meth c H locs cells slots Q (F0 m (pc + 1) ls (.int (nI 4) :: rest))) : W p l e R s m args below meth c H locs cells slots Q (F0 m pc ls (.ref (ad (pRKi i)) :: rest)) :=
  va_alen B.1 B.2.1 B.2.2.2.2.2.1 hP (pRKi i) 0 (ed_w_RKi h) rfl rfl hdg kk
theorem il_RGr (B : ed_B p s m args meth c cc own nL D ca) (hP : va_P D vwCl (ed_w ad ca σ) H) (h : i < 16) (hin : vp_in x 4) (hj : x.toNatClampNeg = j) (hdg : decode cc pc = .ok (.iaload, 1))
    (kk : W p l e R s m args below meth c H locs cells slots Q (F0 m (pc + 1) ls (.int (σ 44 i j) :: rest))) : W p l e R s m args below meth c H locs cells slots Q (F0 m pc ls (.int x :: .ref (ad (pRGr i)) :: rest)) := by
  subst hj
  exact va_iald B.1 B.2.1 B.2.2.2.2.2.1 hP (pRGr i) 0 (ed_w_RGr h) rfl hin hdg kk
theorem is_RGr (B : ed_B p s m args meth c cc own nL D ca) (hP : va_P D vwCl (ed_w ad ca σ) H) (hD : va_D A (ed_w ad ca σ)) (hS : va_S A s.heap H locs) (h : i < 16) (hin : vp_in x 4) (hj : x.toNatClampNeg = j) (eq : σ1 = ed_st σ 44 i j v) (hdg : decode cc pc = .ok (.iastore, 1))
    (kk : ∀ (H1 : Heap) (locs1 : List Loc), va_P D vwCl (ed_w ad ca σ1) H1 → va_D A (ed_w ad ca σ1) → va_S A s.heap H1 locs1 → W p l e R s m args below meth c H1 locs1 cells slots Q (F0 m (pc + 1) ls rest)) : W p l e R s m args below meth c H locs cells slots Q (F0 m pc ls (.int v :: .int x :: .ref (ad (pRGr i)) :: rest)) := by
  subst eq
  subst hj
  refine va_iast B.1 B.2.1 B.2.2.2.2.2.1 hP hD hS (pRGr i) 0 (ed_w_RGr h) rfl hin hdg (fun H1 locs1 hP1 hD1 hS1 => ?_)
  have q0 := ed_w_set (ad := ad) (ca := ca) (σ := σ) (σ2 := ed_st σ 44 i x.toNatClampNeg v) (ed_lt_RGr h) (ed_ct_RGr h) (fun z hz => ed_ct_st hz)
  have q1 : cRGr ad ca (ed_st σ 44 i x.toNatClampNeg v) i = .inl (ca 0, 4, .inl (upd (fun j => σ 44 i j) x.toNatClampNeg v)) := by
    show Sum.inl (ca 0, 4, Sum.inl _) = Sum.inl (ca 0, 4, Sum.inl _)
    congr 3
    refine congrArg Sum.inl ?_
    funext j
    simp [ed_st, upd]
  rw [q1] at q0
  rw [q0] at hP1 hD1
  exact kk H1 locs1 hP1 hD1 hS1
theorem an_RGr (B : ed_B p s m args meth c cc own nL D ca) (hP : va_P D vwCl (ed_w ad ca σ) H) (h : i < 16) (hdg : decode cc pc = .ok (.arraylength, 1))
    (kk : W p l e R s m args below meth c H locs cells slots Q (F0 m (pc + 1) ls (.int (nI 4) :: rest))) : W p l e R s m args below meth c H locs cells slots Q (F0 m pc ls (.ref (ad (pRGr i)) :: rest)) :=
  va_alen B.1 B.2.1 B.2.2.2.2.2.1 hP (pRGr i) 0 (ed_w_RGr h) rfl rfl hdg kk
theorem il_RRi (B : ed_B p s m args meth c cc own nL D ca) (hP : va_P D vwCl (ed_w ad ca σ) H) (h : i < 16) (hin : vp_in x 4) (hj : x.toNatClampNeg = j) (hdg : decode cc pc = .ok (.iaload, 1))
    (kk : W p l e R s m args below meth c H locs cells slots Q (F0 m (pc + 1) ls (.int (σ 45 i j) :: rest))) : W p l e R s m args below meth c H locs cells slots Q (F0 m pc ls (.int x :: .ref (ad (pRRi i)) :: rest)) := by
  subst hj
  exact va_iald B.1 B.2.1 B.2.2.2.2.2.1 hP (pRRi i) 0 (ed_w_RRi h) rfl hin hdg kk
theorem is_RRi (B : ed_B p s m args meth c cc own nL D ca) (hP : va_P D vwCl (ed_w ad ca σ) H) (hD : va_D A (ed_w ad ca σ)) (hS : va_S A s.heap H locs) (h : i < 16) (hin : vp_in x 4) (hj : x.toNatClampNeg = j) (eq : σ1 = ed_st σ 45 i j v) (hdg : decode cc pc = .ok (.iastore, 1))
    (kk : ∀ (H1 : Heap) (locs1 : List Loc), va_P D vwCl (ed_w ad ca σ1) H1 → va_D A (ed_w ad ca σ1) → va_S A s.heap H1 locs1 → W p l e R s m args below meth c H1 locs1 cells slots Q (F0 m (pc + 1) ls rest)) : W p l e R s m args below meth c H locs cells slots Q (F0 m pc ls (.int v :: .int x :: .ref (ad (pRRi i)) :: rest)) := by
  subst eq
  subst hj
  refine va_iast B.1 B.2.1 B.2.2.2.2.2.1 hP hD hS (pRRi i) 0 (ed_w_RRi h) rfl hin hdg (fun H1 locs1 hP1 hD1 hS1 => ?_)
  have q0 := ed_w_set (ad := ad) (ca := ca) (σ := σ) (σ2 := ed_st σ 45 i x.toNatClampNeg v) (ed_lt_RRi h) (ed_ct_RRi h) (fun z hz => ed_ct_st hz)
  have q1 : cRRi ad ca (ed_st σ 45 i x.toNatClampNeg v) i = .inl (ca 0, 4, .inl (upd (fun j => σ 45 i j) x.toNatClampNeg v)) := by
    show Sum.inl (ca 0, 4, Sum.inl _) = Sum.inl (ca 0, 4, Sum.inl _)
    congr 3
    refine congrArg Sum.inl ?_
    funext j
    simp [ed_st, upd]
  rw [q1] at q0
  rw [q0] at hP1 hD1
  exact kk H1 locs1 hP1 hD1 hS1
theorem an_RRi (B : ed_B p s m args meth c cc own nL D ca) (hP : va_P D vwCl (ed_w ad ca σ) H) (h : i < 16) (hdg : decode cc pc = .ok (.arraylength, 1))
    (kk : W p l e R s m args below meth c H locs cells slots Q (F0 m (pc + 1) ls (.int (nI 4) :: rest))) : W p l e R s m args below meth c H locs cells slots Q (F0 m pc ls (.ref (ad (pRRi i)) :: rest)) :=
  va_alen B.1 B.2.1 B.2.2.2.2.2.1 hP (pRRi i) 0 (ed_w_RRi h) rfl rfl hdg kk
theorem al_AProc (B : ed_B p s m args meth c cc own nL D ca) (hP : va_P D vwCl (ed_w ad ca σ) H) (h : i < 1) (hin : vp_in x 4) (hj : x.toNatClampNeg = j) (hjn : j < 4) (hdg : decode cc pc = .ok (.aaload, 1))
    (kk : W p l e R s m args below meth c H locs cells slots Q (F0 m (pc + 1) ls (.ref (ad (pProc j)) :: rest))) : W p l e R s m args below meth c H locs cells slots Q (F0 m pc ls (.int x :: .ref (ad (pAProc i)) :: rest)) := by
  refine va_aldq B.1 B.2.1 B.2.2.2.2.2.1 hP (pAProc i) 1 (ed_w_AProc h) rfl hin hdg ?_
  rw [hj, if_pos hjn]
  exact kk
theorem al_AThr (B : ed_B p s m args meth c cc own nL D ca) (hP : va_P D vwCl (ed_w ad ca σ) H) (h : i < 1) (hin : vp_in x 8) (hj : x.toNatClampNeg = j) (hjn : j < 8) (hdg : decode cc pc = .ok (.aaload, 1))
    (kk : W p l e R s m args below meth c H locs cells slots Q (F0 m (pc + 1) ls (.ref (ad (pThr j)) :: rest))) : W p l e R s m args below meth c H locs cells slots Q (F0 m pc ls (.int x :: .ref (ad (pAThr i)) :: rest)) := by
  refine va_aldq B.1 B.2.1 B.2.2.2.2.2.1 hP (pAThr i) 2 (ed_w_AThr h) rfl hin hdg ?_
  rw [hj, if_pos hjn]
  exact kk
theorem al_ARdy (B : ed_B p s m args meth c cc own nL D ca) (hP : va_P D vwCl (ed_w ad ca σ) H) (h : i < 1) (hin : vp_in x 8) (hj : x.toNatClampNeg = j) (hjn : j < 8) (hdg : decode cc pc = .ok (.aaload, 1))
    (kk : W p l e R s m args below meth c H locs cells slots Q (F0 m (pc + 1) ls (.ref (ad (pRow (8 + j))) :: rest))) : W p l e R s m args below meth c H locs cells slots Q (F0 m pc ls (.int x :: .ref (ad (pARdy i)) :: rest)) := by
  refine va_aldq B.1 B.2.1 B.2.2.2.2.2.1 hP (pARdy i) 3 (ed_w_ARdy h) rfl hin hdg ?_
  rw [hj, if_pos hjn]
  exact kk
theorem al_AObj (B : ed_B p s m args meth c cc own nL D ca) (hP : va_P D vwCl (ed_w ad ca σ) H) (h : i < 1) (hin : vp_in x 16) (hj : x.toNatClampNeg = j) (hjn : j < 16) (hdg : decode cc pc = .ok (.aaload, 1))
    (kk : W p l e R s m args below meth c H locs cells slots Q (F0 m (pc + 1) ls (.ref (ad (pObj j)) :: rest))) : W p l e R s m args below meth c H locs cells slots Q (F0 m pc ls (.int x :: .ref (ad (pAObj i)) :: rest)) := by
  refine va_aldq B.1 B.2.1 B.2.2.2.2.2.1 hP (pAObj i) 4 (ed_w_AObj h) rfl hin hdg ?_
  rw [hj, if_pos hjn]
  exact kk
theorem al_ATra (B : ed_B p s m args meth c cc own nL D ca) (hP : va_P D vwCl (ed_w ad ca σ) H) (h : i < 1) (hin : vp_in x 8) (hj : x.toNatClampNeg = j) (hjn : j < 8) (hdg : decode cc pc = .ok (.aaload, 1))
    (kk : W p l e R s m args below meth c H locs cells slots Q (F0 m (pc + 1) ls (.ref (ad (pTra j)) :: rest))) : W p l e R s m args below meth c H locs cells slots Q (F0 m pc ls (.int x :: .ref (ad (pATra i)) :: rest)) := by
  refine va_aldq B.1 B.2.1 B.2.2.2.2.2.1 hP (pATra i) 5 (ed_w_ATra h) rfl hin hdg ?_
  rw [hj, if_pos hjn]
  exact kk
end EDF
