def ed_tb : List Cond := lw_tbl.filter goodWord
theorem ed_in {i : Nat} {w : Cond} (h : tables_1[i]? = some w) (g : goodWord w = true) : w ∈ ed_tb := List.mem_filter.mpr ⟨List.mem_append_right _ (List.mem_of_getElem? h), g⟩
theorem ed_iq {i : Nat} {w : Cond} (h : (k2_sels lw_privs)[i]? = some w) (g : goodWord w = true) : w ∈ ed_tb := List.mem_filter.mpr ⟨List.mem_append_left _ (List.mem_of_getElem? h), g⟩
def T_Desk : u_T := fun k => match k with
  | 0 => ("ExecutiveDesk", "processes", "[LExecutiveDesk$ProcessState;", true)
  | 1 => ("ExecutiveDesk", "scheduler", "LExecutiveDesk$Scheduler;", true)
  | 2 => ("ExecutiveDesk", "threads", "[LExecutiveDesk$ThreadState;", true)
  | 3 => ("ExecutiveDesk", "objects", "[LExecutiveDesk$ObjectState;", true)
  | 4 => ("ExecutiveDesk", "transfers", "[LExecutiveDesk$TransferState;", true)
  | 5 => ("ExecutiveDesk", "waiting", "LExecutiveDesk$Row;", true)
  | 6 => ("ExecutiveDesk", "interrupts", "LExecutiveDesk$Row;", true)
  | 7 => ("ExecutiveDesk", "processCount", "I", false)
  | 8 => ("ExecutiveDesk", "threadCount", "I", false)
  | 9 => ("ExecutiveDesk", "overCount", "I", false)
  | 10 => ("ExecutiveDesk", "clock", "I", false)
  | _ => ("ExecutiveDesk", "currentLevel", "I", false)
def ty_Desk : Nat → FieldType := fun k => match k with
  | 0 => .array (.object "ExecutiveDesk$ProcessState")
  | 1 => .object "ExecutiveDesk$Scheduler"
  | 2 => .array (.object "ExecutiveDesk$ThreadState")
  | 3 => .array (.object "ExecutiveDesk$ObjectState")
  | 4 => .array (.object "ExecutiveDesk$TransferState")
  | 5 => .object "ExecutiveDesk$Row"
  | 6 => .object "ExecutiveDesk$Row"
  | 7 => .int
  | 8 => .int
  | 9 => .int
  | 10 => .int
  | _ => .int
theorem nm_Desk : ∀ a, a < 12 → ∀ b, b < 12 → a ≠ b → (T_Desk a).2.1 ≠ (T_Desk b).2.1 := by decide +kernel
theorem tyok_Desk : ∀ k, k < 12 → parseFieldDescriptor (T_Desk k).2.2.1 = some (ty_Desk k) := by decide +kernel
theorem lay_Desk_0 : u_lay "ExecutiveDesk" T_Desk 0 ∈ ed_tb := ed_in (i := 272) (by decide +kernel) rfl
theorem lay_Desk_1 : u_lay "ExecutiveDesk" T_Desk 1 ∈ ed_tb := ed_in (i := 274) (by decide +kernel) rfl
theorem lay_Desk_2 : u_lay "ExecutiveDesk" T_Desk 2 ∈ ed_tb := ed_in (i := 276) (by decide +kernel) rfl
theorem lay_Desk_3 : u_lay "ExecutiveDesk" T_Desk 3 ∈ ed_tb := ed_in (i := 278) (by decide +kernel) rfl
theorem lay_Desk_4 : u_lay "ExecutiveDesk" T_Desk 4 ∈ ed_tb := ed_in (i := 280) (by decide +kernel) rfl
theorem lay_Desk_5 : u_lay "ExecutiveDesk" T_Desk 5 ∈ ed_tb := ed_in (i := 282) (by decide +kernel) rfl
theorem lay_Desk_6 : u_lay "ExecutiveDesk" T_Desk 6 ∈ ed_tb := ed_in (i := 284) (by decide +kernel) rfl
theorem lay_Desk_7 : u_lay "ExecutiveDesk" T_Desk 7 ∈ ed_tb := ed_in (i := 286) (by decide +kernel) rfl
theorem lay_Desk_8 : u_lay "ExecutiveDesk" T_Desk 8 ∈ ed_tb := ed_in (i := 288) (by decide +kernel) rfl
theorem lay_Desk_9 : u_lay "ExecutiveDesk" T_Desk 9 ∈ ed_tb := ed_in (i := 290) (by decide +kernel) rfl
theorem lay_Desk_10 : u_lay "ExecutiveDesk" T_Desk 10 ∈ ed_tb := ed_in (i := 292) (by decide +kernel) rfl
theorem lay_Desk_11 : u_lay "ExecutiveDesk" T_Desk 11 ∈ ed_tb := ed_in (i := 294) (by decide +kernel) rfl
theorem iw_Desk : ∀ w ∈ u_ws "ExecutiveDesk" T_Desk 12, w ∈ ed_tb := by
  intro w h
  obtain ⟨k, hk, rfl⟩ := List.mem_map.mp h
  have hk := List.mem_range.mp hk
  rcases (show k = 0 ∨ k = 1 ∨ k = 2 ∨ k = 3 ∨ k = 4 ∨ k = 5 ∨ k = 6 ∨ k = 7 ∨ k = 8 ∨ k = 9 ∨ k = 10 ∨ k = 11 by omega) with rfl | rfl | rfl | rfl | rfl | rfl | rfl | rfl | rfl | rfl | rfl | rfl
  · exact lay_Desk_0
  · exact lay_Desk_1
  · exact lay_Desk_2
  · exact lay_Desk_3
  · exact lay_Desk_4
  · exact lay_Desk_5
  · exact lay_Desk_6
  · exact lay_Desk_7
  · exact lay_Desk_8
  · exact lay_Desk_9
  · exact lay_Desk_10
  · exact lay_Desk_11
def T_Sched : u_T := fun k => match k with
  | 0 => ("ExecutiveDesk$Scheduler", "threads", "[LExecutiveDesk$ThreadState;", true)
  | 1 => ("ExecutiveDesk$Scheduler", "ready", "[LExecutiveDesk$Row;", true)
  | 2 => ("ExecutiveDesk$Scheduler", "running", "I", false)
  | 3 => ("ExecutiveDesk$Scheduler", "lastRan", "I", false)
  | _ => ("ExecutiveDesk$Scheduler", "switches", "I", false)
def ty_Sched : Nat → FieldType := fun k => match k with
  | 0 => .array (.object "ExecutiveDesk$ThreadState")
  | 1 => .array (.object "ExecutiveDesk$Row")
  | 2 => .int
  | 3 => .int
  | _ => .int
theorem nm_Sched : ∀ a, a < 5 → ∀ b, b < 5 → a ≠ b → (T_Sched a).2.1 ≠ (T_Sched b).2.1 := by decide +kernel
theorem tyok_Sched : ∀ k, k < 5 → parseFieldDescriptor (T_Sched k).2.2.1 = some (ty_Sched k) := by decide +kernel
theorem lay_Sched_0 : u_lay "ExecutiveDesk$Scheduler" T_Sched 0 ∈ ed_tb := ed_in (i := 112) (by decide +kernel) rfl
theorem lay_Sched_1 : u_lay "ExecutiveDesk$Scheduler" T_Sched 1 ∈ ed_tb := ed_in (i := 114) (by decide +kernel) rfl
theorem lay_Sched_2 : u_lay "ExecutiveDesk$Scheduler" T_Sched 2 ∈ ed_tb := ed_in (i := 116) (by decide +kernel) rfl
theorem lay_Sched_3 : u_lay "ExecutiveDesk$Scheduler" T_Sched 3 ∈ ed_tb := ed_in (i := 118) (by decide +kernel) rfl
theorem lay_Sched_4 : u_lay "ExecutiveDesk$Scheduler" T_Sched 4 ∈ ed_tb := ed_in (i := 120) (by decide +kernel) rfl
theorem iw_Sched : ∀ w ∈ u_ws "ExecutiveDesk$Scheduler" T_Sched 5, w ∈ ed_tb := by
  intro w h
  obtain ⟨k, hk, rfl⟩ := List.mem_map.mp h
  have hk := List.mem_range.mp hk
  rcases (show k = 0 ∨ k = 1 ∨ k = 2 ∨ k = 3 ∨ k = 4 by omega) with rfl | rfl | rfl | rfl | rfl
  · exact lay_Sched_0
  · exact lay_Sched_1
  · exact lay_Sched_2
  · exact lay_Sched_3
  · exact lay_Sched_4
def T_Thr : u_T := fun k => match k with
  | 0 => ("ExecutiveDesk$ThreadState", "calls", "LExecutiveDesk$Row;", true)
  | 1 => ("ExecutiveDesk$ThreadState", "places", "[I", true)
  | 2 => ("ExecutiveDesk$ThreadState", "process", "I", false)
  | 3 => ("ExecutiveDesk$ThreadState", "priority", "I", false)
  | 4 => ("ExecutiveDesk$ThreadState", "state", "I", false)
  | 5 => ("ExecutiveDesk$ThreadState", "result", "I", false)
  | 6 => ("ExecutiveDesk$ThreadState", "delivered", "I", false)
  | 7 => ("ExecutiveDesk$ThreadState", "latestCall", "I", false)
  | 8 => ("ExecutiveDesk$ThreadState", "used", "I", false)
  | 9 => ("ExecutiveDesk$ThreadState", "wantsAll", "Z", false)
  | 10 => ("ExecutiveDesk$ThreadState", "mayBeAlerted", "Z", false)
  | _ => ("ExecutiveDesk$ThreadState", "deadline", "I", false)
def ty_Thr : Nat → FieldType := fun k => match k with
  | 0 => .object "ExecutiveDesk$Row"
  | 1 => .array .int
  | 2 => .int
  | 3 => .int
  | 4 => .int
  | 5 => .int
  | 6 => .int
  | 7 => .int
  | 8 => .int
  | 9 => .boolean
  | 10 => .boolean
  | _ => .int
theorem nm_Thr : ∀ a, a < 12 → ∀ b, b < 12 → a ≠ b → (T_Thr a).2.1 ≠ (T_Thr b).2.1 := by decide +kernel
theorem tyok_Thr : ∀ k, k < 12 → parseFieldDescriptor (T_Thr k).2.2.1 = some (ty_Thr k) := by decide +kernel
theorem lay_Thr_0 : u_lay "ExecutiveDesk$ThreadState" T_Thr 0 ∈ ed_tb := ed_in (i := 78) (by decide +kernel) rfl
theorem lay_Thr_1 : u_lay "ExecutiveDesk$ThreadState" T_Thr 1 ∈ ed_tb := ed_in (i := 80) (by decide +kernel) rfl
theorem lay_Thr_2 : u_lay "ExecutiveDesk$ThreadState" T_Thr 2 ∈ ed_tb := ed_in (i := 82) (by decide +kernel) rfl
theorem lay_Thr_3 : u_lay "ExecutiveDesk$ThreadState" T_Thr 3 ∈ ed_tb := ed_in (i := 84) (by decide +kernel) rfl
theorem lay_Thr_4 : u_lay "ExecutiveDesk$ThreadState" T_Thr 4 ∈ ed_tb := ed_in (i := 86) (by decide +kernel) rfl
theorem lay_Thr_5 : u_lay "ExecutiveDesk$ThreadState" T_Thr 5 ∈ ed_tb := ed_in (i := 88) (by decide +kernel) rfl
theorem lay_Thr_6 : u_lay "ExecutiveDesk$ThreadState" T_Thr 6 ∈ ed_tb := ed_in (i := 90) (by decide +kernel) rfl
theorem lay_Thr_7 : u_lay "ExecutiveDesk$ThreadState" T_Thr 7 ∈ ed_tb := ed_in (i := 92) (by decide +kernel) rfl
theorem lay_Thr_8 : u_lay "ExecutiveDesk$ThreadState" T_Thr 8 ∈ ed_tb := ed_in (i := 94) (by decide +kernel) rfl
theorem lay_Thr_9 : u_lay "ExecutiveDesk$ThreadState" T_Thr 9 ∈ ed_tb := ed_in (i := 96) (by decide +kernel) rfl
theorem lay_Thr_10 : u_lay "ExecutiveDesk$ThreadState" T_Thr 10 ∈ ed_tb := ed_in (i := 98) (by decide +kernel) rfl
theorem lay_Thr_11 : u_lay "ExecutiveDesk$ThreadState" T_Thr 11 ∈ ed_tb := ed_in (i := 100) (by decide +kernel) rfl
theorem iw_Thr : ∀ w ∈ u_ws "ExecutiveDesk$ThreadState" T_Thr 12, w ∈ ed_tb := by
  intro w h
  obtain ⟨k, hk, rfl⟩ := List.mem_map.mp h
  have hk := List.mem_range.mp hk
  rcases (show k = 0 ∨ k = 1 ∨ k = 2 ∨ k = 3 ∨ k = 4 ∨ k = 5 ∨ k = 6 ∨ k = 7 ∨ k = 8 ∨ k = 9 ∨ k = 10 ∨ k = 11 by omega) with rfl | rfl | rfl | rfl | rfl | rfl | rfl | rfl | rfl | rfl | rfl | rfl
  · exact lay_Thr_0
  · exact lay_Thr_1
  · exact lay_Thr_2
  · exact lay_Thr_3
  · exact lay_Thr_4
  · exact lay_Thr_5
  · exact lay_Thr_6
  · exact lay_Thr_7
  · exact lay_Thr_8
  · exact lay_Thr_9
  · exact lay_Thr_10
  · exact lay_Thr_11
def T_Row : u_T := fun k => match k with
  | 0 => ("ExecutiveDesk$Row", "items", "[I", true)
  | _ => ("ExecutiveDesk$Row", "size", "I", false)
def ty_Row : Nat → FieldType := fun k => match k with
  | 0 => .array .int
  | _ => .int
theorem nm_Row : ∀ a, a < 2 → ∀ b, b < 2 → a ≠ b → (T_Row a).2.1 ≠ (T_Row b).2.1 := by decide +kernel
theorem tyok_Row : ∀ k, k < 2 → parseFieldDescriptor (T_Row k).2.2.1 = some (ty_Row k) := by decide +kernel
theorem lay_Row_0 : u_lay "ExecutiveDesk$Row" T_Row 0 ∈ ed_tb := ed_in (i := 48) (by decide +kernel) rfl
theorem lay_Row_1 : u_lay "ExecutiveDesk$Row" T_Row 1 ∈ ed_tb := ed_in (i := 50) (by decide +kernel) rfl
theorem iw_Row : ∀ w ∈ u_ws "ExecutiveDesk$Row" T_Row 2, w ∈ ed_tb := by
  intro w h
  obtain ⟨k, hk, rfl⟩ := List.mem_map.mp h
  have hk := List.mem_range.mp hk
  rcases (show k = 0 ∨ k = 1 by omega) with rfl | rfl
  · exact lay_Row_0
  · exact lay_Row_1
def T_Proc : u_T := fun k => match k with
  | 0 => ("ExecutiveDesk$ProcessState", "handleObjects", "[I", true)
  | 1 => ("ExecutiveDesk$ProcessState", "handleRights", "[I", true)
  | 2 => ("ExecutiveDesk$ProcessState", "groups", "I", false)
  | 3 => ("ExecutiveDesk$ProcessState", "threadsMade", "I", false)
  | _ => ("ExecutiveDesk$ProcessState", "threadsAlive", "I", false)
def ty_Proc : Nat → FieldType := fun k => match k with
  | 0 => .array .int
  | 1 => .array .int
  | 2 => .int
  | 3 => .int
  | _ => .int
theorem nm_Proc : ∀ a, a < 5 → ∀ b, b < 5 → a ≠ b → (T_Proc a).2.1 ≠ (T_Proc b).2.1 := by decide +kernel
theorem tyok_Proc : ∀ k, k < 5 → parseFieldDescriptor (T_Proc k).2.2.1 = some (ty_Proc k) := by decide +kernel
theorem lay_Proc_0 : u_lay "ExecutiveDesk$ProcessState" T_Proc 0 ∈ ed_tb := ed_in (i := 143) (by decide +kernel) rfl
theorem lay_Proc_1 : u_lay "ExecutiveDesk$ProcessState" T_Proc 1 ∈ ed_tb := ed_in (i := 145) (by decide +kernel) rfl
theorem lay_Proc_2 : u_lay "ExecutiveDesk$ProcessState" T_Proc 2 ∈ ed_tb := ed_in (i := 147) (by decide +kernel) rfl
theorem lay_Proc_3 : u_lay "ExecutiveDesk$ProcessState" T_Proc 3 ∈ ed_tb := ed_in (i := 149) (by decide +kernel) rfl
theorem lay_Proc_4 : u_lay "ExecutiveDesk$ProcessState" T_Proc 4 ∈ ed_tb := ed_in (i := 151) (by decide +kernel) rfl
theorem iw_Proc : ∀ w ∈ u_ws "ExecutiveDesk$ProcessState" T_Proc 5, w ∈ ed_tb := by
  intro w h
  obtain ⟨k, hk, rfl⟩ := List.mem_map.mp h
  have hk := List.mem_range.mp hk
  rcases (show k = 0 ∨ k = 1 ∨ k = 2 ∨ k = 3 ∨ k = 4 by omega) with rfl | rfl | rfl | rfl | rfl
  · exact lay_Proc_0
  · exact lay_Proc_1
  · exact lay_Proc_2
  · exact lay_Proc_3
  · exact lay_Proc_4
def T_Obj : u_T := fun k => match k with
  | 0 => ("ExecutiveDesk$ObjectState", "rules", "LExecutiveDesk$RuleList;", true)
  | 1 => ("ExecutiveDesk$ObjectState", "row", "LExecutiveDesk$Row;", true)
  | 2 => ("ExecutiveDesk$ObjectState", "type", "I", false)
  | 3 => ("ExecutiveDesk$ObjectState", "name", "I", false)
  | 4 => ("ExecutiveDesk$ObjectState", "handles", "I", false)
  | 5 => ("ExecutiveDesk$ObjectState", "pointers", "I", false)
  | 6 => ("ExecutiveDesk$ObjectState", "value", "I", false)
  | 7 => ("ExecutiveDesk$ObjectState", "owner", "I", false)
  | 8 => ("ExecutiveDesk$ObjectState", "abandoned", "Z", false)
  | _ => ("ExecutiveDesk$ObjectState", "due", "I", false)
def ty_Obj : Nat → FieldType := fun k => match k with
  | 0 => .object "ExecutiveDesk$RuleList"
  | 1 => .object "ExecutiveDesk$Row"
  | 2 => .int
  | 3 => .int
  | 4 => .int
  | 5 => .int
  | 6 => .int
  | 7 => .int
  | 8 => .boolean
  | _ => .int
theorem nm_Obj : ∀ a, a < 10 → ∀ b, b < 10 → a ≠ b → (T_Obj a).2.1 ≠ (T_Obj b).2.1 := by decide +kernel
theorem tyok_Obj : ∀ k, k < 10 → parseFieldDescriptor (T_Obj k).2.2.1 = some (ty_Obj k) := by decide +kernel
theorem lay_Obj_0 : u_lay "ExecutiveDesk$ObjectState" T_Obj 0 ∈ ed_tb := ed_in (i := 201) (by decide +kernel) rfl
theorem lay_Obj_1 : u_lay "ExecutiveDesk$ObjectState" T_Obj 1 ∈ ed_tb := ed_in (i := 203) (by decide +kernel) rfl
theorem lay_Obj_2 : u_lay "ExecutiveDesk$ObjectState" T_Obj 2 ∈ ed_tb := ed_in (i := 205) (by decide +kernel) rfl
theorem lay_Obj_3 : u_lay "ExecutiveDesk$ObjectState" T_Obj 3 ∈ ed_tb := ed_in (i := 207) (by decide +kernel) rfl
theorem lay_Obj_4 : u_lay "ExecutiveDesk$ObjectState" T_Obj 4 ∈ ed_tb := ed_in (i := 209) (by decide +kernel) rfl
theorem lay_Obj_5 : u_lay "ExecutiveDesk$ObjectState" T_Obj 5 ∈ ed_tb := ed_in (i := 211) (by decide +kernel) rfl
theorem lay_Obj_6 : u_lay "ExecutiveDesk$ObjectState" T_Obj 6 ∈ ed_tb := ed_in (i := 213) (by decide +kernel) rfl
theorem lay_Obj_7 : u_lay "ExecutiveDesk$ObjectState" T_Obj 7 ∈ ed_tb := ed_in (i := 215) (by decide +kernel) rfl
theorem lay_Obj_8 : u_lay "ExecutiveDesk$ObjectState" T_Obj 8 ∈ ed_tb := ed_in (i := 217) (by decide +kernel) rfl
theorem lay_Obj_9 : u_lay "ExecutiveDesk$ObjectState" T_Obj 9 ∈ ed_tb := ed_in (i := 219) (by decide +kernel) rfl
theorem iw_Obj : ∀ w ∈ u_ws "ExecutiveDesk$ObjectState" T_Obj 10, w ∈ ed_tb := by
  intro w h
  obtain ⟨k, hk, rfl⟩ := List.mem_map.mp h
  have hk := List.mem_range.mp hk
  rcases (show k = 0 ∨ k = 1 ∨ k = 2 ∨ k = 3 ∨ k = 4 ∨ k = 5 ∨ k = 6 ∨ k = 7 ∨ k = 8 ∨ k = 9 by omega) with rfl | rfl | rfl | rfl | rfl | rfl | rfl | rfl | rfl | rfl
  · exact lay_Obj_0
  · exact lay_Obj_1
  · exact lay_Obj_2
  · exact lay_Obj_3
  · exact lay_Obj_4
  · exact lay_Obj_5
  · exact lay_Obj_6
  · exact lay_Obj_7
  · exact lay_Obj_8
  · exact lay_Obj_9
def T_Rul : u_T := fun k => match k with
  | 0 => ("ExecutiveDesk$RuleList", "kinds", "[I", true)
  | 1 => ("ExecutiveDesk$RuleList", "groups", "[I", true)
  | 2 => ("ExecutiveDesk$RuleList", "rights", "[I", true)
  | _ => ("ExecutiveDesk$RuleList", "size", "I", false)
def ty_Rul : Nat → FieldType := fun k => match k with
  | 0 => .array .int
  | 1 => .array .int
  | 2 => .array .int
  | _ => .int
theorem nm_Rul : ∀ a, a < 4 → ∀ b, b < 4 → a ≠ b → (T_Rul a).2.1 ≠ (T_Rul b).2.1 := by decide +kernel
theorem tyok_Rul : ∀ k, k < 4 → parseFieldDescriptor (T_Rul k).2.2.1 = some (ty_Rul k) := by decide +kernel
theorem lay_Rul_0 : u_lay "ExecutiveDesk$RuleList" T_Rul 0 ∈ ed_tb := ed_in (i := 171) (by decide +kernel) rfl
theorem lay_Rul_1 : u_lay "ExecutiveDesk$RuleList" T_Rul 1 ∈ ed_tb := ed_in (i := 173) (by decide +kernel) rfl
theorem lay_Rul_2 : u_lay "ExecutiveDesk$RuleList" T_Rul 2 ∈ ed_tb := ed_in (i := 175) (by decide +kernel) rfl
theorem lay_Rul_3 : u_lay "ExecutiveDesk$RuleList" T_Rul 3 ∈ ed_tb := ed_in (i := 177) (by decide +kernel) rfl
theorem iw_Rul : ∀ w ∈ u_ws "ExecutiveDesk$RuleList" T_Rul 4, w ∈ ed_tb := by
  intro w h
  obtain ⟨k, hk, rfl⟩ := List.mem_map.mp h
  have hk := List.mem_range.mp hk
  rcases (show k = 0 ∨ k = 1 ∨ k = 2 ∨ k = 3 by omega) with rfl | rfl | rfl | rfl
  · exact lay_Rul_0
  · exact lay_Rul_1
  · exact lay_Rul_2
  · exact lay_Rul_3
def T_Tra : u_T := fun k => match k with
  | 0 => ("ExecutiveDesk$TransferState", "status", "I", false)
  | 1 => ("ExecutiveDesk$TransferState", "amount", "I", false)
  | 2 => ("ExecutiveDesk$TransferState", "thread", "I", false)
  | 3 => ("ExecutiveDesk$TransferState", "device", "I", false)
  | 4 => ("ExecutiveDesk$TransferState", "length", "I", false)
  | 5 => ("ExecutiveDesk$TransferState", "target", "I", false)
  | 6 => ("ExecutiveDesk$TransferState", "toBeCancelled", "Z", false)
  | _ => ("ExecutiveDesk$TransferState", "retried", "Z", false)
def ty_Tra : Nat → FieldType := fun k => match k with
  | 0 => .int
  | 1 => .int
  | 2 => .int
  | 3 => .int
  | 4 => .int
  | 5 => .int
  | 6 => .boolean
  | _ => .boolean
theorem nm_Tra : ∀ a, a < 8 → ∀ b, b < 8 → a ≠ b → (T_Tra a).2.1 ≠ (T_Tra b).2.1 := by decide +kernel
theorem tyok_Tra : ∀ k, k < 8 → parseFieldDescriptor (T_Tra k).2.2.1 = some (ty_Tra k) := by decide +kernel
theorem lay_Tra_0 : u_lay "ExecutiveDesk$TransferState" T_Tra 0 ∈ ed_tb := ed_in (i := 243) (by decide +kernel) rfl
theorem lay_Tra_1 : u_lay "ExecutiveDesk$TransferState" T_Tra 1 ∈ ed_tb := ed_in (i := 245) (by decide +kernel) rfl
theorem lay_Tra_2 : u_lay "ExecutiveDesk$TransferState" T_Tra 2 ∈ ed_tb := ed_in (i := 247) (by decide +kernel) rfl
theorem lay_Tra_3 : u_lay "ExecutiveDesk$TransferState" T_Tra 3 ∈ ed_tb := ed_in (i := 249) (by decide +kernel) rfl
theorem lay_Tra_4 : u_lay "ExecutiveDesk$TransferState" T_Tra 4 ∈ ed_tb := ed_in (i := 251) (by decide +kernel) rfl
theorem lay_Tra_5 : u_lay "ExecutiveDesk$TransferState" T_Tra 5 ∈ ed_tb := ed_in (i := 253) (by decide +kernel) rfl
theorem lay_Tra_6 : u_lay "ExecutiveDesk$TransferState" T_Tra 6 ∈ ed_tb := ed_in (i := 255) (by decide +kernel) rfl
theorem lay_Tra_7 : u_lay "ExecutiveDesk$TransferState" T_Tra 7 ∈ ed_tb := ed_in (i := 257) (by decide +kernel) rfl
theorem iw_Tra : ∀ w ∈ u_ws "ExecutiveDesk$TransferState" T_Tra 8, w ∈ ed_tb := by
  intro w h
  obtain ⟨k, hk, rfl⟩ := List.mem_map.mp h
  have hk := List.mem_range.mp hk
  rcases (show k = 0 ∨ k = 1 ∨ k = 2 ∨ k = 3 ∨ k = 4 ∨ k = 5 ∨ k = 6 ∨ k = 7 by omega) with rfl | rfl | rfl | rfl | rfl | rfl | rfl | rfl
  · exact lay_Tra_0
  · exact lay_Tra_1
  · exact lay_Tra_2
  · exact lay_Tra_3
  · exact lay_Tra_4
  · exact lay_Tra_5
  · exact lay_Tra_6
  · exact lay_Tra_7
def T_Mod : u_T := fun k => match k with
  | 0 => ("ExecutiveDeskModel", "groups", "[I", true)
  | 1 => ("ExecutiveDeskModel", "alive", "[I", true)
  | 2 => ("ExecutiveDeskModel", "had", "[I", true)
  | 3 => ("ExecutiveDeskModel", "handleObject", "[I", true)
  | 4 => ("ExecutiveDeskModel", "handleRights", "[I", true)
  | 5 => ("ExecutiveDeskModel", "home", "[I", true)
  | 6 => ("ExecutiveDeskModel", "priority", "[I", true)
  | 7 => ("ExecutiveDeskModel", "state", "[I", true)
  | 8 => ("ExecutiveDeskModel", "result", "[I", true)
  | 9 => ("ExecutiveDeskModel", "calls", "[I", true)
  | 10 => ("ExecutiveDeskModel", "delivered", "[I", true)
  | 11 => ("ExecutiveDeskModel", "latest", "[I", true)
  | 12 => ("ExecutiveDeskModel", "used", "[I", true)
  | 13 => ("ExecutiveDeskModel", "due", "[I", true)
  | 14 => ("ExecutiveDeskModel", "how", "[I", true)
  | 15 => ("ExecutiveDeskModel", "began", "[I", true)
  | 16 => ("ExecutiveDeskModel", "stands", "[I", true)
  | 17 => ("ExecutiveDeskModel", "place", "[I", true)
  | 18 => ("ExecutiveDeskModel", "row", "[I", true)
  | 19 => ("ExecutiveDeskModel", "there", "[Z", true)
  | 20 => ("ExecutiveDeskModel", "isSet", "[Z", true)
  | 21 => ("ExecutiveDeskModel", "abandoned", "[Z", true)
  | 22 => ("ExecutiveDeskModel", "type", "[I", true)
  | 23 => ("ExecutiveDeskModel", "name", "[I", true)
  | 24 => ("ExecutiveDeskModel", "count", "[I", true)
  | 25 => ("ExecutiveDeskModel", "owner", "[I", true)
  | 26 => ("ExecutiveDeskModel", "time", "[I", true)
  | 27 => ("ExecutiveDeskModel", "rules", "[I", true)
  | 28 => ("ExecutiveDeskModel", "ruleKind", "[I", true)
  | 29 => ("ExecutiveDeskModel", "ruleGroup", "[I", true)
  | 30 => ("ExecutiveDeskModel", "ruleRights", "[I", true)
  | 31 => ("ExecutiveDeskModel", "tState", "[I", true)
  | 32 => ("ExecutiveDeskModel", "tAmount", "[I", true)
  | 33 => ("ExecutiveDeskModel", "tThread", "[I", true)
  | 34 => ("ExecutiveDeskModel", "tDevice", "[I", true)
  | 35 => ("ExecutiveDeskModel", "tLength", "[I", true)
  | 36 => ("ExecutiveDeskModel", "tSets", "[I", true)
  | 37 => ("ExecutiveDeskModel", "tOrder", "[I", true)
  | 38 => ("ExecutiveDeskModel", "tCancel", "[Z", true)
  | 39 => ("ExecutiveDeskModel", "tAgain", "[Z", true)
  | 40 => ("ExecutiveDeskModel", "waiting", "[I", true)
  | 41 => ("ExecutiveDeskModel", "waitingWell", "[Z", true)
  | 42 => ("ExecutiveDeskModel", "processes", "I", false)
  | 43 => ("ExecutiveDeskModel", "threads", "I", false)
  | 44 => ("ExecutiveDeskModel", "running", "I", false)
  | 45 => ("ExecutiveDeskModel", "last", "I", false)
  | 46 => ("ExecutiveDeskModel", "clock", "I", false)
  | 47 => ("ExecutiveDeskModel", "level", "I", false)
  | 48 => ("ExecutiveDeskModel", "interrupts", "I", false)
  | 49 => ("ExecutiveDeskModel", "switches", "I", false)
  | 50 => ("ExecutiveDeskModel", "overs", "I", false)
  | 51 => ("ExecutiveDeskModel", "orders", "I", false)
  | _ => ("ExecutiveDeskModel", "front", "I", false)
def ty_Mod : Nat → FieldType := fun k => match k with
  | 0 => .array .int
  | 1 => .array .int
  | 2 => .array .int
  | 3 => .array .int
  | 4 => .array .int
  | 5 => .array .int
  | 6 => .array .int
  | 7 => .array .int
  | 8 => .array .int
  | 9 => .array .int
  | 10 => .array .int
  | 11 => .array .int
  | 12 => .array .int
  | 13 => .array .int
  | 14 => .array .int
  | 15 => .array .int
  | 16 => .array .int
  | 17 => .array .int
  | 18 => .array .int
  | 19 => .array .boolean
  | 20 => .array .boolean
  | 21 => .array .boolean
  | 22 => .array .int
  | 23 => .array .int
  | 24 => .array .int
  | 25 => .array .int
  | 26 => .array .int
  | 27 => .array .int
  | 28 => .array .int
  | 29 => .array .int
  | 30 => .array .int
  | 31 => .array .int
  | 32 => .array .int
  | 33 => .array .int
  | 34 => .array .int
  | 35 => .array .int
  | 36 => .array .int
  | 37 => .array .int
  | 38 => .array .boolean
  | 39 => .array .boolean
  | 40 => .array .int
  | 41 => .array .boolean
  | 42 => .int
  | 43 => .int
  | 44 => .int
  | 45 => .int
  | 46 => .int
  | 47 => .int
  | 48 => .int
  | 49 => .int
  | 50 => .int
  | 51 => .int
  | _ => .int
theorem nm_Mod : ∀ a, a < 53 → ∀ b, b < 53 → a ≠ b → (T_Mod a).2.1 ≠ (T_Mod b).2.1 := by decide +kernel
theorem tyok_Mod : ∀ k, k < 53 → parseFieldDescriptor (T_Mod k).2.2.1 = some (ty_Mod k) := by decide +kernel
theorem lay_Mod_0 : u_lay "ExecutiveDeskModel" T_Mod 0 ∈ ed_tb := ed_in (i := 707) (by decide +kernel) rfl
theorem lay_Mod_1 : u_lay "ExecutiveDeskModel" T_Mod 1 ∈ ed_tb := ed_in (i := 709) (by decide +kernel) rfl
theorem lay_Mod_2 : u_lay "ExecutiveDeskModel" T_Mod 2 ∈ ed_tb := ed_in (i := 711) (by decide +kernel) rfl
theorem lay_Mod_3 : u_lay "ExecutiveDeskModel" T_Mod 3 ∈ ed_tb := ed_in (i := 713) (by decide +kernel) rfl
theorem lay_Mod_4 : u_lay "ExecutiveDeskModel" T_Mod 4 ∈ ed_tb := ed_in (i := 715) (by decide +kernel) rfl
theorem lay_Mod_5 : u_lay "ExecutiveDeskModel" T_Mod 5 ∈ ed_tb := ed_in (i := 717) (by decide +kernel) rfl
theorem lay_Mod_6 : u_lay "ExecutiveDeskModel" T_Mod 6 ∈ ed_tb := ed_in (i := 719) (by decide +kernel) rfl
theorem lay_Mod_7 : u_lay "ExecutiveDeskModel" T_Mod 7 ∈ ed_tb := ed_in (i := 721) (by decide +kernel) rfl
theorem lay_Mod_8 : u_lay "ExecutiveDeskModel" T_Mod 8 ∈ ed_tb := ed_in (i := 723) (by decide +kernel) rfl
theorem lay_Mod_9 : u_lay "ExecutiveDeskModel" T_Mod 9 ∈ ed_tb := ed_in (i := 725) (by decide +kernel) rfl
theorem lay_Mod_10 : u_lay "ExecutiveDeskModel" T_Mod 10 ∈ ed_tb := ed_in (i := 727) (by decide +kernel) rfl
theorem lay_Mod_11 : u_lay "ExecutiveDeskModel" T_Mod 11 ∈ ed_tb := ed_in (i := 729) (by decide +kernel) rfl
theorem lay_Mod_12 : u_lay "ExecutiveDeskModel" T_Mod 12 ∈ ed_tb := ed_in (i := 731) (by decide +kernel) rfl
theorem lay_Mod_13 : u_lay "ExecutiveDeskModel" T_Mod 13 ∈ ed_tb := ed_in (i := 733) (by decide +kernel) rfl
theorem lay_Mod_14 : u_lay "ExecutiveDeskModel" T_Mod 14 ∈ ed_tb := ed_in (i := 735) (by decide +kernel) rfl
theorem lay_Mod_15 : u_lay "ExecutiveDeskModel" T_Mod 15 ∈ ed_tb := ed_in (i := 737) (by decide +kernel) rfl
theorem lay_Mod_16 : u_lay "ExecutiveDeskModel" T_Mod 16 ∈ ed_tb := ed_in (i := 739) (by decide +kernel) rfl
theorem lay_Mod_17 : u_lay "ExecutiveDeskModel" T_Mod 17 ∈ ed_tb := ed_in (i := 741) (by decide +kernel) rfl
theorem lay_Mod_18 : u_lay "ExecutiveDeskModel" T_Mod 18 ∈ ed_tb := ed_in (i := 743) (by decide +kernel) rfl
theorem lay_Mod_19 : u_lay "ExecutiveDeskModel" T_Mod 19 ∈ ed_tb := ed_in (i := 745) (by decide +kernel) rfl
theorem lay_Mod_20 : u_lay "ExecutiveDeskModel" T_Mod 20 ∈ ed_tb := ed_in (i := 747) (by decide +kernel) rfl
theorem lay_Mod_21 : u_lay "ExecutiveDeskModel" T_Mod 21 ∈ ed_tb := ed_in (i := 749) (by decide +kernel) rfl
theorem lay_Mod_22 : u_lay "ExecutiveDeskModel" T_Mod 22 ∈ ed_tb := ed_in (i := 751) (by decide +kernel) rfl
theorem lay_Mod_23 : u_lay "ExecutiveDeskModel" T_Mod 23 ∈ ed_tb := ed_in (i := 753) (by decide +kernel) rfl
theorem lay_Mod_24 : u_lay "ExecutiveDeskModel" T_Mod 24 ∈ ed_tb := ed_in (i := 755) (by decide +kernel) rfl
theorem lay_Mod_25 : u_lay "ExecutiveDeskModel" T_Mod 25 ∈ ed_tb := ed_in (i := 757) (by decide +kernel) rfl
theorem lay_Mod_26 : u_lay "ExecutiveDeskModel" T_Mod 26 ∈ ed_tb := ed_in (i := 759) (by decide +kernel) rfl
theorem lay_Mod_27 : u_lay "ExecutiveDeskModel" T_Mod 27 ∈ ed_tb := ed_in (i := 761) (by decide +kernel) rfl
theorem lay_Mod_28 : u_lay "ExecutiveDeskModel" T_Mod 28 ∈ ed_tb := ed_in (i := 763) (by decide +kernel) rfl
theorem lay_Mod_29 : u_lay "ExecutiveDeskModel" T_Mod 29 ∈ ed_tb := ed_in (i := 765) (by decide +kernel) rfl
theorem lay_Mod_30 : u_lay "ExecutiveDeskModel" T_Mod 30 ∈ ed_tb := ed_in (i := 767) (by decide +kernel) rfl
theorem lay_Mod_31 : u_lay "ExecutiveDeskModel" T_Mod 31 ∈ ed_tb := ed_in (i := 769) (by decide +kernel) rfl
theorem lay_Mod_32 : u_lay "ExecutiveDeskModel" T_Mod 32 ∈ ed_tb := ed_in (i := 771) (by decide +kernel) rfl
theorem lay_Mod_33 : u_lay "ExecutiveDeskModel" T_Mod 33 ∈ ed_tb := ed_in (i := 773) (by decide +kernel) rfl
theorem lay_Mod_34 : u_lay "ExecutiveDeskModel" T_Mod 34 ∈ ed_tb := ed_in (i := 775) (by decide +kernel) rfl
theorem lay_Mod_35 : u_lay "ExecutiveDeskModel" T_Mod 35 ∈ ed_tb := ed_in (i := 777) (by decide +kernel) rfl
theorem lay_Mod_36 : u_lay "ExecutiveDeskModel" T_Mod 36 ∈ ed_tb := ed_in (i := 779) (by decide +kernel) rfl
theorem lay_Mod_37 : u_lay "ExecutiveDeskModel" T_Mod 37 ∈ ed_tb := ed_in (i := 781) (by decide +kernel) rfl
theorem lay_Mod_38 : u_lay "ExecutiveDeskModel" T_Mod 38 ∈ ed_tb := ed_in (i := 783) (by decide +kernel) rfl
theorem lay_Mod_39 : u_lay "ExecutiveDeskModel" T_Mod 39 ∈ ed_tb := ed_in (i := 785) (by decide +kernel) rfl
theorem lay_Mod_40 : u_lay "ExecutiveDeskModel" T_Mod 40 ∈ ed_tb := ed_in (i := 787) (by decide +kernel) rfl
theorem lay_Mod_41 : u_lay "ExecutiveDeskModel" T_Mod 41 ∈ ed_tb := ed_in (i := 789) (by decide +kernel) rfl
theorem lay_Mod_42 : u_lay "ExecutiveDeskModel" T_Mod 42 ∈ ed_tb := ed_in (i := 791) (by decide +kernel) rfl
theorem lay_Mod_43 : u_lay "ExecutiveDeskModel" T_Mod 43 ∈ ed_tb := ed_in (i := 793) (by decide +kernel) rfl
theorem lay_Mod_44 : u_lay "ExecutiveDeskModel" T_Mod 44 ∈ ed_tb := ed_in (i := 795) (by decide +kernel) rfl
theorem lay_Mod_45 : u_lay "ExecutiveDeskModel" T_Mod 45 ∈ ed_tb := ed_in (i := 797) (by decide +kernel) rfl
theorem lay_Mod_46 : u_lay "ExecutiveDeskModel" T_Mod 46 ∈ ed_tb := ed_in (i := 799) (by decide +kernel) rfl
theorem lay_Mod_47 : u_lay "ExecutiveDeskModel" T_Mod 47 ∈ ed_tb := ed_in (i := 801) (by decide +kernel) rfl
theorem lay_Mod_48 : u_lay "ExecutiveDeskModel" T_Mod 48 ∈ ed_tb := ed_in (i := 803) (by decide +kernel) rfl
theorem lay_Mod_49 : u_lay "ExecutiveDeskModel" T_Mod 49 ∈ ed_tb := ed_in (i := 805) (by decide +kernel) rfl
theorem lay_Mod_50 : u_lay "ExecutiveDeskModel" T_Mod 50 ∈ ed_tb := ed_in (i := 807) (by decide +kernel) rfl
theorem lay_Mod_51 : u_lay "ExecutiveDeskModel" T_Mod 51 ∈ ed_tb := ed_in (i := 809) (by decide +kernel) rfl
theorem lay_Mod_52 : u_lay "ExecutiveDeskModel" T_Mod 52 ∈ ed_tb := ed_in (i := 811) (by decide +kernel) rfl
theorem iw_Mod : ∀ w ∈ u_ws "ExecutiveDeskModel" T_Mod 53, w ∈ ed_tb := by
  intro w h
  obtain ⟨k, hk, rfl⟩ := List.mem_map.mp h
  have hk := List.mem_range.mp hk
  rcases (show k = 0 ∨ k = 1 ∨ k = 2 ∨ k = 3 ∨ k = 4 ∨ k = 5 ∨ k = 6 ∨ k = 7 ∨ k = 8 ∨ k = 9 ∨ k = 10 ∨ k = 11 ∨ k = 12 ∨ k = 13 ∨ k = 14 ∨ k = 15 ∨ k = 16 ∨ k = 17 ∨ k = 18 ∨ k = 19 ∨ k = 20 ∨ k = 21 ∨ k = 22 ∨ k = 23 ∨ k = 24 ∨ k = 25 ∨ k = 26 ∨ k = 27 ∨ k = 28 ∨ k = 29 ∨ k = 30 ∨ k = 31 ∨ k = 32 ∨ k = 33 ∨ k = 34 ∨ k = 35 ∨ k = 36 ∨ k = 37 ∨ k = 38 ∨ k = 39 ∨ k = 40 ∨ k = 41 ∨ k = 42 ∨ k = 43 ∨ k = 44 ∨ k = 45 ∨ k = 46 ∨ k = 47 ∨ k = 48 ∨ k = 49 ∨ k = 50 ∨ k = 51 ∨ k = 52 by omega) with rfl | rfl | rfl | rfl | rfl | rfl | rfl | rfl | rfl | rfl | rfl | rfl | rfl | rfl | rfl | rfl | rfl | rfl | rfl | rfl | rfl | rfl | rfl | rfl | rfl | rfl | rfl | rfl | rfl | rfl | rfl | rfl | rfl | rfl | rfl | rfl | rfl | rfl | rfl | rfl | rfl | rfl | rfl | rfl | rfl | rfl | rfl | rfl | rfl | rfl | rfl | rfl | rfl
  · exact lay_Mod_0
  · exact lay_Mod_1
  · exact lay_Mod_2
  · exact lay_Mod_3
  · exact lay_Mod_4
  · exact lay_Mod_5
  · exact lay_Mod_6
  · exact lay_Mod_7
  · exact lay_Mod_8
  · exact lay_Mod_9
  · exact lay_Mod_10
  · exact lay_Mod_11
  · exact lay_Mod_12
  · exact lay_Mod_13
  · exact lay_Mod_14
  · exact lay_Mod_15
  · exact lay_Mod_16
  · exact lay_Mod_17
  · exact lay_Mod_18
  · exact lay_Mod_19
  · exact lay_Mod_20
  · exact lay_Mod_21
  · exact lay_Mod_22
  · exact lay_Mod_23
  · exact lay_Mod_24
  · exact lay_Mod_25
  · exact lay_Mod_26
  · exact lay_Mod_27
  · exact lay_Mod_28
  · exact lay_Mod_29
  · exact lay_Mod_30
  · exact lay_Mod_31
  · exact lay_Mod_32
  · exact lay_Mod_33
  · exact lay_Mod_34
  · exact lay_Mod_35
  · exact lay_Mod_36
  · exact lay_Mod_37
  · exact lay_Mod_38
  · exact lay_Mod_39
  · exact lay_Mod_40
  · exact lay_Mod_41
  · exact lay_Mod_42
  · exact lay_Mod_43
  · exact lay_Mod_44
  · exact lay_Mod_45
  · exact lay_Mod_46
  · exact lay_Mod_47
  · exact lay_Mod_48
  · exact lay_Mod_49
  · exact lay_Mod_50
  · exact lay_Mod_51
  · exact lay_Mod_52
abbrev vwCl : List vw_C := [("ExecutiveDesk$ObjectState", T_Obj, 10), ("ExecutiveDesk$ProcessState", T_Proc, 5), ("ExecutiveDesk$Row", T_Row, 2), ("ExecutiveDesk$RuleList", T_Rul, 4), ("ExecutiveDesk$Scheduler", T_Sched, 5), ("ExecutiveDesk$ThreadState", T_Thr, 12), ("ExecutiveDesk$TransferState", T_Tra, 8), ("ExecutiveDesk", T_Desk, 12), ("ExecutiveDeskModel", T_Mod, 53)]
abbrev ed_ty (ca : Nat → ClassId) : List (ClassId × FieldType) := [(ca 0, .int), (ca 1, .object "ExecutiveDesk$ProcessState"), (ca 2, .object "ExecutiveDesk$ThreadState"), (ca 3, .object "ExecutiveDesk$Row"), (ca 4, .object "ExecutiveDesk$ObjectState"), (ca 5, .object "ExecutiveDesk$TransferState"), (ca 6, .boolean)]
def ed_n1 : Cond := .methodLinkNest "ExecutiveDesk$ProcessState" 25 ⟨"ExecutiveDesk", "isWithin", "(III)Z"⟩ "ExecutiveDesk"
def y_Desk_init : MethodName := ⟨"ExecutiveDesk", "<init>", "()V"⟩
theorem mc_Desk_init : Cond.code y_Desk_init prog_1_method_1_code 2 none ∈ ed_tb := ed_in (i := 15) (by decide +kernel) rfl
def y_Desk_process : MethodName := ⟨"ExecutiveDesk", "process", "(I)I"⟩
theorem mc_Desk_process : Cond.code y_Desk_process prog_1_method_2_code 2 (some .int) ∈ ed_tb := ed_in (i := 300) (by decide +kernel) rfl
def y_Desk_thread : MethodName := ⟨"ExecutiveDesk", "thread", "(II)I"⟩
theorem mc_Desk_thread : Cond.code y_Desk_thread prog_1_method_3_code 4 (some .int) ∈ ed_tb := ed_in (i := 307) (by decide +kernel) rfl
def y_Desk_create : MethodName := ⟨"ExecutiveDesk", "create", "(III)I"⟩
theorem mc_Desk_create : Cond.code y_Desk_create prog_1_method_4_code 7 (some .int) ∈ ed_tb := ed_in (i := 347) (by decide +kernel) rfl
def y_Desk_opn : MethodName := ⟨"ExecutiveDesk", "open", "(II)I"⟩
theorem mc_Desk_opn : Cond.code y_Desk_opn prog_1_method_5_code 6 (some .int) ∈ ed_tb := ed_in (i := 386) (by decide +kernel) rfl
def y_Desk_clse : MethodName := ⟨"ExecutiveDesk", "close", "(I)I"⟩
theorem mc_Desk_clse : Cond.code y_Desk_clse prog_1_method_6_code 4 (some .int) ∈ ed_tb := ed_in (i := 394) (by decide +kernel) rfl
def y_Desk_rule : MethodName := ⟨"ExecutiveDesk", "rule", "(IIII)I"⟩
theorem mc_Desk_rule : Cond.code y_Desk_rule prog_1_method_7_code 8 (some .int) ∈ ed_tb := ed_in (i := 407) (by decide +kernel) rfl
def y_Desk_sett : MethodName := ⟨"ExecutiveDesk", "set", "(II)I"⟩
theorem mc_Desk_sett : Cond.code y_Desk_sett prog_1_method_8_code 6 (some .int) ∈ ed_tb := ed_in (i := 424) (by decide +kernel) rfl
def y_Desk_await : MethodName := ⟨"ExecutiveDesk", "await", "(IIIII)I"⟩
theorem mc_Desk_await : Cond.code y_Desk_await prog_1_method_9_code 10 (some .int) ∈ ed_tb := ed_in (i := 491) (by decide +kernel) rfl
def y_Desk_call : MethodName := ⟨"ExecutiveDesk", "call", "(II)I"⟩
theorem mc_Desk_call : Cond.code y_Desk_call prog_1_method_10_code 4 (some .int) ∈ ed_tb := ed_in (i := 517) (by decide +kernel) rfl
def y_Desk_level : MethodName := ⟨"ExecutiveDesk", "level", "(I)I"⟩
theorem mc_Desk_level : Cond.code y_Desk_level prog_1_method_11_code 6 (some .int) ∈ ed_tb := ed_in (i := 525) (by decide +kernel) rfl
def y_Desk_interrupt : MethodName := ⟨"ExecutiveDesk", "interrupt", "(IZ)I"⟩
theorem mc_Desk_interrupt : Cond.code y_Desk_interrupt prog_1_method_12_code 3 (some .int) ∈ ed_tb := ed_in (i := 546) (by decide +kernel) rfl
def y_Desk_transfer : MethodName := ⟨"ExecutiveDesk", "transfer", "(IIII)I"⟩
theorem mc_Desk_transfer : Cond.code y_Desk_transfer prog_1_method_13_code 9 (some .int) ∈ ed_tb := ed_in (i := 554) (by decide +kernel) rfl
def y_Desk_cancel : MethodName := ⟨"ExecutiveDesk", "cancel", "(I)I"⟩
theorem mc_Desk_cancel : Cond.code y_Desk_cancel prog_1_method_14_code 3 (some .int) ∈ ed_tb := ed_in (i := 573) (by decide +kernel) rfl
def y_Desk_exit : MethodName := ⟨"ExecutiveDesk", "exit", "()I"⟩
theorem mc_Desk_exit : Cond.code y_Desk_exit prog_1_method_15_code 3 (some .int) ∈ ed_tb := ed_in (i := 589) (by decide +kernel) rfl
def y_Desk_tick : MethodName := ⟨"ExecutiveDesk", "tick", "(I)I"⟩
theorem mc_Desk_tick : Cond.code y_Desk_tick prog_1_method_16_code 3 (some .int) ∈ ed_tb := ed_in (i := 601) (by decide +kernel) rfl
def y_Desk_actor : MethodName := ⟨"ExecutiveDesk", "actor", "(II)I"⟩
theorem mc_Desk_actor : Cond.code y_Desk_actor prog_1_method_17_code 4 (some .int) ∈ ed_tb := ed_in (i := 622) (by decide +kernel) rfl
def y_Desk_object : MethodName := ⟨"ExecutiveDesk", "object", "(II)I"⟩
theorem mc_Desk_object : Cond.code y_Desk_object prog_1_method_18_code 4 (some .int) ∈ ed_tb := ed_in (i := 626) (by decide +kernel) rfl
def y_Desk_io : MethodName := ⟨"ExecutiveDesk", "io", "(II)I"⟩
theorem mc_Desk_io : Cond.code y_Desk_io prog_1_method_19_code 4 (some .int) ∈ ed_tb := ed_in (i := 634) (by decide +kernel) rfl
def y_Desk_handle : MethodName := ⟨"ExecutiveDesk", "handle", "(III)I"⟩
theorem mc_Desk_handle : Cond.code y_Desk_handle prog_1_method_20_code 4 (some .int) ∈ ed_tb := ed_in (i := 638) (by decide +kernel) rfl
def y_Desk_count : MethodName := ⟨"ExecutiveDesk", "count", "(I)I"⟩
theorem mc_Desk_count : Cond.code y_Desk_count prog_1_method_21_code 2 (some .int) ∈ ed_tb := ed_in (i := 643) (by decide +kernel) rfl
def y_Desk_isWithin : MethodName := ⟨"ExecutiveDesk", "isWithin", "(III)Z"⟩
theorem mc_Desk_isWithin : Cond.code y_Desk_isWithin prog_1_method_22_code 3 (some .boolean) ∈ ed_tb := ed_in (i := 303) (by decide +kernel) rfl
theorem st_Desk_isWithin : Cond.static y_Desk_isWithin ∈ ed_tb := ed_in (i := 302) (by decide +kernel) rfl
def y_Desk_mostAtFirst : MethodName := ⟨"ExecutiveDesk", "mostAtFirst", "(I)I"⟩
theorem mc_Desk_mostAtFirst : Cond.code y_Desk_mostAtFirst prog_1_method_23_code 1 (some .int) ∈ ed_tb := ed_in (i := 350) (by decide +kernel) rfl
theorem st_Desk_mostAtFirst : Cond.static y_Desk_mostAtFirst ∈ ed_tb := ed_in (i := 349) (by decide +kernel) rfl
def y_Desk_canBeSetTo : MethodName := ⟨"ExecutiveDesk", "canBeSetTo", "(II)Z"⟩
theorem mc_Desk_canBeSetTo : Cond.code y_Desk_canBeSetTo prog_1_method_24_code 2 (some .boolean) ∈ ed_tb := ed_in (i := 427) (by decide +kernel) rfl
theorem st_Desk_canBeSetTo : Cond.static y_Desk_canBeSetTo ∈ ed_tb := ed_in (i := 426) (by decide +kernel) rfl
def y_Desk_lookWhoRuns : MethodName := ⟨"ExecutiveDesk", "lookWhoRuns", "()V"⟩
theorem mc_Desk_lookWhoRuns : Cond.code y_Desk_lookWhoRuns prog_1_method_25_code 1 none ∈ ed_tb := ed_in (i := 323) (by decide +kernel) rfl
def y_Desk_processOfRunning : MethodName := ⟨"ExecutiveDesk", "processOfRunning", "()LExecutiveDesk$ProcessState;"⟩
theorem mc_Desk_processOfRunning : Cond.code y_Desk_processOfRunning prog_1_method_26_code 1 (some (.object "ExecutiveDesk$ProcessState")) ∈ ed_tb := ed_in (i := 362) (by decide +kernel) rfl
def y_Desk_isThere : MethodName := ⟨"ExecutiveDesk", "isThere", "(I)Z"⟩
theorem mc_Desk_isThere : Cond.code y_Desk_isThere prog_1_method_27_code 2 (some .boolean) ∈ ed_tb := ed_in (i := 550) (by decide +kernel) rfl
def y_Desk_isOfType : MethodName := ⟨"ExecutiveDesk", "isOfType", "(III)Z"⟩
theorem mc_Desk_isOfType : Cond.code y_Desk_isOfType prog_1_method_28_code 4 (some .boolean) ∈ ed_tb := ed_in (i := 499) (by decide +kernel) rfl
def y_Desk_isPending : MethodName := ⟨"ExecutiveDesk", "isPending", "(I)Z"⟩
theorem mc_Desk_isPending : Cond.code y_Desk_isPending prog_1_method_29_code 2 (some .boolean) ∈ ed_tb := ed_in (i := 577) (by decide +kernel) rfl
def y_Desk_objectNamed : MethodName := ⟨"ExecutiveDesk", "objectNamed", "(I)I"⟩
theorem mc_Desk_objectNamed : Cond.code y_Desk_objectNamed prog_1_method_30_code 3 (some .int) ∈ ed_tb := ed_in (i := 354) (by decide +kernel) rfl
def y_Desk_freeObject : MethodName := ⟨"ExecutiveDesk", "freeObject", "()I"⟩
theorem mc_Desk_freeObject : Cond.code y_Desk_freeObject prog_1_method_31_code 2 (some .int) ∈ ed_tb := ed_in (i := 370) (by decide +kernel) rfl
def y_Desk_freeTransfer : MethodName := ⟨"ExecutiveDesk", "freeTransfer", "()I"⟩
theorem mc_Desk_freeTransfer : Cond.code y_Desk_freeTransfer prog_1_method_32_code 2 (some .int) ∈ ed_tb := ed_in (i := 558) (by decide +kernel) rfl
def y_Desk_objectsThere : MethodName := ⟨"ExecutiveDesk", "objectsThere", "()I"⟩
theorem mc_Desk_objectsThere : Cond.code y_Desk_objectsThere prog_1_method_33_code 3 (some .int) ∈ ed_tb := ed_in (i := 647) (by decide +kernel) rfl
def y_Desk_detailOf : MethodName := ⟨"ExecutiveDesk", "detailOf", "(LExecutiveDesk$ObjectState;)I"⟩
theorem mc_Desk_detailOf : Cond.code y_Desk_detailOf prog_1_method_34_code 2 (some .int) ∈ ed_tb := ed_in (i := 630) (by decide +kernel) rfl
def y_Desk_giveHandle : MethodName := ⟨"ExecutiveDesk", "giveHandle", "(LExecutiveDesk$ProcessState;III)V"⟩
theorem mc_Desk_giveHandle : Cond.code y_Desk_giveHandle prog_1_method_35_code 5 none ∈ ed_tb := ed_in (i := 382) (by decide +kernel) rfl
def y_Desk_dropHandle : MethodName := ⟨"ExecutiveDesk", "dropHandle", "(LExecutiveDesk$ProcessState;I)V"⟩
theorem mc_Desk_dropHandle : Cond.code y_Desk_dropHandle prog_1_method_36_code 3 none ∈ ed_tb := ed_in (i := 403) (by decide +kernel) rfl
def y_Desk_dropAllHandles : MethodName := ⟨"ExecutiveDesk", "dropAllHandles", "(LExecutiveDesk$ProcessState;)V"⟩
theorem mc_Desk_dropAllHandles : Cond.code y_Desk_dropAllHandles prog_1_method_37_code 3 none ∈ ed_tb := ed_in (i := 597) (by decide +kernel) rfl
def y_Desk_change : MethodName := ⟨"ExecutiveDesk", "change", "(LExecutiveDesk$ObjectState;I)I"⟩
theorem mc_Desk_change : Cond.code y_Desk_change prog_1_method_38_code 3 (some .int) ∈ ed_tb := ed_in (i := 431) (by decide +kernel) rfl
def y_Desk_turnTo : MethodName := ⟨"ExecutiveDesk", "turnTo", "(LExecutiveDesk$ObjectState;I)I"⟩
theorem mc_Desk_turnTo : Cond.code y_Desk_turnTo prog_1_method_39_code 4 (some .int) ∈ ed_tb := ed_in (i := 487) (by decide +kernel) rfl
def y_Desk_raiseCount : MethodName := ⟨"ExecutiveDesk", "raiseCount", "(LExecutiveDesk$ObjectState;I)I"⟩
theorem mc_Desk_raiseCount : Cond.code y_Desk_raiseCount prog_1_method_40_code 4 (some .int) ∈ ed_tb := ed_in (i := 435) (by decide +kernel) rfl
def y_Desk_giveBack : MethodName := ⟨"ExecutiveDesk", "giveBack", "(LExecutiveDesk$ObjectState;)I"⟩
theorem mc_Desk_giveBack : Cond.code y_Desk_giveBack prog_1_method_41_code 3 (some .int) ∈ ed_tb := ed_in (i := 479) (by decide +kernel) rfl
def y_Desk_startTimer : MethodName := ⟨"ExecutiveDesk", "startTimer", "(LExecutiveDesk$ObjectState;I)I"⟩
theorem mc_Desk_startTimer : Cond.code y_Desk_startTimer prog_1_method_42_code 4 (some .int) ∈ ed_tb := ed_in (i := 483) (by decide +kernel) rfl
def y_Desk_canBeAwaited : MethodName := ⟨"ExecutiveDesk", "canBeAwaited", "(LExecutiveDesk$ProcessState;III)Z"⟩
theorem mc_Desk_canBeAwaited : Cond.code y_Desk_canBeAwaited prog_1_method_43_code 8 (some .boolean) ∈ ed_tb := ed_in (i := 495) (by decide +kernel) rfl
def y_Desk_satisfy : MethodName := ⟨"ExecutiveDesk", "satisfy", "(I)I"⟩
theorem mc_Desk_satisfy : Cond.code y_Desk_satisfy prog_1_method_44_code 2 (some .int) ∈ ed_tb := ed_in (i := 447) (by decide +kernel) rfl
def y_Desk_satisfyAny : MethodName := ⟨"ExecutiveDesk", "satisfyAny", "(I)I"⟩
theorem mc_Desk_satisfyAny : Cond.code y_Desk_satisfyAny prog_1_method_45_code 4 (some .int) ∈ ed_tb := ed_in (i := 463) (by decide +kernel) rfl
def y_Desk_satisfyAll : MethodName := ⟨"ExecutiveDesk", "satisfyAll", "(I)I"⟩
theorem mc_Desk_satisfyAll : Cond.code y_Desk_satisfyAll prog_1_method_46_code 5 (some .int) ∈ ed_tb := ed_in (i := 451) (by decide +kernel) rfl
def y_Desk_beginWait : MethodName := ⟨"ExecutiveDesk", "beginWait", "(II)V"⟩
theorem mc_Desk_beginWait : Cond.code y_Desk_beginWait prog_1_method_47_code 4 none ∈ ed_tb := ed_in (i := 512) (by decide +kernel) rfl
def y_Desk_endWait : MethodName := ⟨"ExecutiveDesk", "endWait", "(II)V"⟩
theorem mc_Desk_endWait : Cond.code y_Desk_endWait prog_1_method_48_code 3 none ∈ ed_tb := ed_in (i := 467) (by decide +kernel) rfl
def y_Desk_pointToPlacesOf : MethodName := ⟨"ExecutiveDesk", "pointToPlacesOf", "(LExecutiveDesk$ThreadState;I)V"⟩
theorem mc_Desk_pointToPlacesOf : Cond.code y_Desk_pointToPlacesOf prog_1_method_49_code 5 none ∈ ed_tb := ed_in (i := 475) (by decide +kernel) rfl
def y_Desk_release : MethodName := ⟨"ExecutiveDesk", "release", "()V"⟩
theorem mc_Desk_release : Cond.code y_Desk_release prog_1_method_50_code 5 none ∈ ed_tb := ed_in (i := 439) (by decide +kernel) rfl
def y_Desk_alertIfDue : MethodName := ⟨"ExecutiveDesk", "alertIfDue", "(I)V"⟩
theorem mc_Desk_alertIfDue : Cond.code y_Desk_alertIfDue prog_1_method_51_code 3 none ∈ ed_tb := ed_in (i := 521) (by decide +kernel) rfl
def y_Desk_finishFirst : MethodName := ⟨"ExecutiveDesk", "finishFirst", "(LExecutiveDesk$ObjectState;Z)V"⟩
theorem mc_Desk_finishFirst : Cond.code y_Desk_finishFirst prog_1_method_52_code 5 none ∈ ed_tb := ed_in (i := 530) (by decide +kernel) rfl
def y_Desk_sendDown : MethodName := ⟨"ExecutiveDesk", "sendDown", "(II)V"⟩
theorem mc_Desk_sendDown : Cond.code y_Desk_sendDown prog_1_method_53_code 5 none ∈ ed_tb := ed_in (i := 566) (by decide +kernel) rfl
def y_Desk_withdraw : MethodName := ⟨"ExecutiveDesk", "withdraw", "(I)I"⟩
theorem mc_Desk_withdraw : Cond.code y_Desk_withdraw prog_1_method_54_code 3 (some .int) ∈ ed_tb := ed_in (i := 581) (by decide +kernel) rfl
def y_Desk_conclude : MethodName := ⟨"ExecutiveDesk", "conclude", "(LExecutiveDesk$TransferState;II)V"⟩
theorem mc_Desk_conclude : Cond.code y_Desk_conclude prog_1_method_55_code 4 none ∈ ed_tb := ed_in (i := 534) (by decide +kernel) rfl
def y_Desk_pointToObjectsOf : MethodName := ⟨"ExecutiveDesk", "pointToObjectsOf", "(LExecutiveDesk$TransferState;I)V"⟩
theorem mc_Desk_pointToObjectsOf : Cond.code y_Desk_pointToObjectsOf prog_1_method_56_code 3 none ∈ ed_tb := ed_in (i := 538) (by decide +kernel) rfl
def y_Desk_abandonMutantsOf : MethodName := ⟨"ExecutiveDesk", "abandonMutantsOf", "(I)V"⟩
theorem mc_Desk_abandonMutantsOf : Cond.code y_Desk_abandonMutantsOf prog_1_method_57_code 4 none ∈ ed_tb := ed_in (i := 593) (by decide +kernel) rfl
def y_Desk_passOneTick : MethodName := ⟨"ExecutiveDesk", "passOneTick", "()V"⟩
theorem mc_Desk_passOneTick : Cond.code y_Desk_passOneTick prog_1_method_58_code 2 none ∈ ed_tb := ed_in (i := 605) (by decide +kernel) rfl
def y_Desk_signalTimersDue : MethodName := ⟨"ExecutiveDesk", "signalTimersDue", "()V"⟩
theorem mc_Desk_signalTimersDue : Cond.code y_Desk_signalTimersDue prog_1_method_59_code 3 none ∈ ed_tb := ed_in (i := 609) (by decide +kernel) rfl
def y_Desk_endWaitsTimedOut : MethodName := ⟨"ExecutiveDesk", "endWaitsTimedOut", "()V"⟩
theorem mc_Desk_endWaitsTimedOut : Cond.code y_Desk_endWaitsTimedOut prog_1_method_60_code 2 none ∈ ed_tb := ed_in (i := 613) (by decide +kernel) rfl
theorem L_Desk_1 : (Cond.methodLink "ExecutiveDesk" 1 ⟨"java/lang/Object", "<init>", "()V"⟩) ∈ ed_tb := ed_in (i := 16) (by decide +kernel) rfl
theorem L_Desk_17 : (Cond.methodLink "ExecutiveDesk" 17 ⟨"ExecutiveDesk$Scheduler", "<init>", "()V"⟩) ∈ ed_tb := ed_in (i := 23) (by decide +kernel) rfl
theorem L_Desk_181 : (Cond.fieldLink "ExecutiveDesk" 181 "ExecutiveDesk$Row" "size" "I") ∈ ed_tb := ed_in (i := 47) (by decide +kernel) rfl
theorem L_Desk_178 : (Cond.fieldLink "ExecutiveDesk" 178 "ExecutiveDesk$ThreadState" "calls" "LExecutiveDesk$Row;") ∈ ed_tb := ed_in (i := 55) (by decide +kernel) rfl
theorem L_Desk_355 : (Cond.fieldLink "ExecutiveDesk" 355 "ExecutiveDesk$ThreadState" "places" "[I") ∈ ed_tb := ed_in (i := 57) (by decide +kernel) rfl
theorem L_Desk_78 : (Cond.fieldLink "ExecutiveDesk" 78 "ExecutiveDesk$ThreadState" "process" "I") ∈ ed_tb := ed_in (i := 58) (by decide +kernel) rfl
theorem L_Desk_83 : (Cond.fieldLink "ExecutiveDesk" 83 "ExecutiveDesk$ThreadState" "priority" "I") ∈ ed_tb := ed_in (i := 60) (by decide +kernel) rfl
theorem L_Desk_192 : (Cond.fieldLink "ExecutiveDesk" 192 "ExecutiveDesk$ThreadState" "state" "I") ∈ ed_tb := ed_in (i := 63) (by decide +kernel) rfl
theorem L_Desk_252 : (Cond.fieldLink "ExecutiveDesk" 252 "ExecutiveDesk$ThreadState" "result" "I") ∈ ed_tb := ed_in (i := 65) (by decide +kernel) rfl
theorem L_Desk_255 : (Cond.fieldLink "ExecutiveDesk" 255 "ExecutiveDesk$ThreadState" "delivered" "I") ∈ ed_tb := ed_in (i := 67) (by decide +kernel) rfl
theorem L_Desk_258 : (Cond.fieldLink "ExecutiveDesk" 258 "ExecutiveDesk$ThreadState" "latestCall" "I") ∈ ed_tb := ed_in (i := 69) (by decide +kernel) rfl
theorem L_Desk_261 : (Cond.fieldLink "ExecutiveDesk" 261 "ExecutiveDesk$ThreadState" "used" "I") ∈ ed_tb := ed_in (i := 71) (by decide +kernel) rfl
theorem L_Desk_346 : (Cond.fieldLink "ExecutiveDesk" 346 "ExecutiveDesk$ThreadState" "wantsAll" "Z") ∈ ed_tb := ed_in (i := 73) (by decide +kernel) rfl
theorem L_Desk_174 : (Cond.fieldLink "ExecutiveDesk" 174 "ExecutiveDesk$ThreadState" "mayBeAlerted" "Z") ∈ ed_tb := ed_in (i := 75) (by decide +kernel) rfl
theorem L_Desk_264 : (Cond.fieldLink "ExecutiveDesk" 264 "ExecutiveDesk$ThreadState" "deadline" "I") ∈ ed_tb := ed_in (i := 77) (by decide +kernel) rfl
theorem L_Desk_22 : (Cond.fieldLink "ExecutiveDesk" 22 "ExecutiveDesk$Scheduler" "threads" "[LExecutiveDesk$ThreadState;") ∈ ed_tb := ed_in (i := 105) (by decide +kernel) rfl
theorem L_Desk_92 : (Cond.fieldLink "ExecutiveDesk" 92 "ExecutiveDesk$Scheduler" "running" "I") ∈ ed_tb := ed_in (i := 108) (by decide +kernel) rfl
theorem L_Desk_307 : (Cond.fieldLink "ExecutiveDesk" 307 "ExecutiveDesk$Scheduler" "switches" "I") ∈ ed_tb := ed_in (i := 111) (by decide +kernel) rfl
theorem L_Desk_41 : (Cond.methodLink "ExecutiveDesk" 41 ⟨"ExecutiveDesk$Row", "<init>", "(I)V"⟩) ∈ ed_tb := ed_in (i := 128) (by decide +kernel) rfl
theorem L_Desk_51 : (Cond.methodLink "ExecutiveDesk" 51 ⟨"ExecutiveDesk$ProcessState", "<init>", "()V"⟩) ∈ ed_tb := ed_in (i := 130) (by decide +kernel) rfl
theorem L_Desk_324 : (Cond.fieldLink "ExecutiveDesk" 324 "ExecutiveDesk$ProcessState" "handleObjects" "[I") ∈ ed_tb := ed_in (i := 135) (by decide +kernel) rfl
theorem L_Desk_328 : (Cond.fieldLink "ExecutiveDesk" 328 "ExecutiveDesk$ProcessState" "handleRights" "[I") ∈ ed_tb := ed_in (i := 137) (by decide +kernel) rfl
theorem L_Desk_62 : (Cond.fieldLink "ExecutiveDesk" 62 "ExecutiveDesk$ProcessState" "groups" "I") ∈ ed_tb := ed_in (i := 138) (by decide +kernel) rfl
theorem L_Desk_72 : (Cond.fieldLink "ExecutiveDesk" 72 "ExecutiveDesk$ProcessState" "threadsMade" "I") ∈ ed_tb := ed_in (i := 140) (by decide +kernel) rfl
theorem L_Desk_75 : (Cond.fieldLink "ExecutiveDesk" 75 "ExecutiveDesk$ProcessState" "threadsAlive" "I") ∈ ed_tb := ed_in (i := 142) (by decide +kernel) rfl
theorem L_Desk_147 : (Cond.fieldLink "ExecutiveDesk" 147 "ExecutiveDesk$RuleList" "size" "I") ∈ ed_tb := ed_in (i := 170) (by decide +kernel) rfl
theorem L_Desk_124 : (Cond.fieldLink "ExecutiveDesk" 124 "ExecutiveDesk$ObjectState" "rules" "LExecutiveDesk$RuleList;") ∈ ed_tb := ed_in (i := 183) (by decide +kernel) rfl
theorem L_Desk_270 : (Cond.fieldLink "ExecutiveDesk" 270 "ExecutiveDesk$ObjectState" "row" "LExecutiveDesk$Row;") ∈ ed_tb := ed_in (i := 185) (by decide +kernel) rfl
theorem L_Desk_153 : (Cond.fieldLink "ExecutiveDesk" 153 "ExecutiveDesk$ObjectState" "type" "I") ∈ ed_tb := ed_in (i := 187) (by decide +kernel) rfl
theorem L_Desk_141 : (Cond.fieldLink "ExecutiveDesk" 141 "ExecutiveDesk$ObjectState" "handles" "I") ∈ ed_tb := ed_in (i := 190) (by decide +kernel) rfl
theorem L_Desk_204 : (Cond.fieldLink "ExecutiveDesk" 204 "ExecutiveDesk$ObjectState" "pointers" "I") ∈ ed_tb := ed_in (i := 192) (by decide +kernel) rfl
theorem L_Desk_273 : (Cond.fieldLink "ExecutiveDesk" 273 "ExecutiveDesk$ObjectState" "value" "I") ∈ ed_tb := ed_in (i := 194) (by decide +kernel) rfl
theorem L_Desk_117 : (Cond.fieldLink "ExecutiveDesk" 117 "ExecutiveDesk$ObjectState" "owner" "I") ∈ ed_tb := ed_in (i := 196) (by decide +kernel) rfl
theorem L_Desk_280 : (Cond.fieldLink "ExecutiveDesk" 280 "ExecutiveDesk$ObjectState" "abandoned" "Z") ∈ ed_tb := ed_in (i := 198) (by decide +kernel) rfl
theorem L_Desk_318 : (Cond.fieldLink "ExecutiveDesk" 318 "ExecutiveDesk$ObjectState" "due" "I") ∈ ed_tb := ed_in (i := 200) (by decide +kernel) rfl
theorem L_Desk_283 : (Cond.fieldLink "ExecutiveDesk" 283 "ExecutiveDesk$TransferState" "status" "I") ∈ ed_tb := ed_in (i := 228) (by decide +kernel) rfl
theorem L_Desk_286 : (Cond.fieldLink "ExecutiveDesk" 286 "ExecutiveDesk$TransferState" "amount" "I") ∈ ed_tb := ed_in (i := 230) (by decide +kernel) rfl
theorem L_Desk_239 : (Cond.fieldLink "ExecutiveDesk" 239 "ExecutiveDesk$TransferState" "thread" "I") ∈ ed_tb := ed_in (i := 232) (by decide +kernel) rfl
theorem L_Desk_289 : (Cond.fieldLink "ExecutiveDesk" 289 "ExecutiveDesk$TransferState" "device" "I") ∈ ed_tb := ed_in (i := 234) (by decide +kernel) rfl
theorem L_Desk_292 : (Cond.fieldLink "ExecutiveDesk" 292 "ExecutiveDesk$TransferState" "length" "I") ∈ ed_tb := ed_in (i := 236) (by decide +kernel) rfl
theorem L_Desk_390 : (Cond.fieldLink "ExecutiveDesk" 390 "ExecutiveDesk$TransferState" "target" "I") ∈ ed_tb := ed_in (i := 238) (by decide +kernel) rfl
theorem L_Desk_295 : (Cond.fieldLink "ExecutiveDesk" 295 "ExecutiveDesk$TransferState" "toBeCancelled" "Z") ∈ ed_tb := ed_in (i := 240) (by decide +kernel) rfl
theorem L_Desk_298 : (Cond.fieldLink "ExecutiveDesk" 298 "ExecutiveDesk$TransferState" "retried" "Z") ∈ ed_tb := ed_in (i := 242) (by decide +kernel) rfl
theorem L_Desk_11 : (Cond.fieldLink "ExecutiveDesk" 11 "ExecutiveDesk" "processes" "[LExecutiveDesk$ProcessState;") ∈ ed_tb := ed_in (i := 260) (by decide +kernel) rfl
theorem L_Desk_18 : (Cond.fieldLink "ExecutiveDesk" 18 "ExecutiveDesk" "scheduler" "LExecutiveDesk$Scheduler;") ∈ ed_tb := ed_in (i := 261) (by decide +kernel) rfl
theorem L_Desk_26 : (Cond.fieldLink "ExecutiveDesk" 26 "ExecutiveDesk" "threads" "[LExecutiveDesk$ThreadState;") ∈ ed_tb := ed_in (i := 262) (by decide +kernel) rfl
theorem L_Desk_29 : (Cond.fieldLink "ExecutiveDesk" 29 "ExecutiveDesk" "objects" "[LExecutiveDesk$ObjectState;") ∈ ed_tb := ed_in (i := 263) (by decide +kernel) rfl
theorem L_Desk_35 : (Cond.fieldLink "ExecutiveDesk" 35 "ExecutiveDesk" "transfers" "[LExecutiveDesk$TransferState;") ∈ ed_tb := ed_in (i := 264) (by decide +kernel) rfl
theorem L_Desk_44 : (Cond.fieldLink "ExecutiveDesk" 44 "ExecutiveDesk" "waiting" "LExecutiveDesk$Row;") ∈ ed_tb := ed_in (i := 265) (by decide +kernel) rfl
theorem L_Desk_48 : (Cond.fieldLink "ExecutiveDesk" 48 "ExecutiveDesk" "interrupts" "LExecutiveDesk$Row;") ∈ ed_tb := ed_in (i := 266) (by decide +kernel) rfl
theorem L_Desk_58 : (Cond.fieldLink "ExecutiveDesk" 58 "ExecutiveDesk" "processCount" "I") ∈ ed_tb := ed_in (i := 267) (by decide +kernel) rfl
theorem L_Desk_69 : (Cond.fieldLink "ExecutiveDesk" 69 "ExecutiveDesk" "threadCount" "I") ∈ ed_tb := ed_in (i := 268) (by decide +kernel) rfl
theorem L_Desk_310 : (Cond.fieldLink "ExecutiveDesk" 310 "ExecutiveDesk" "overCount" "I") ∈ ed_tb := ed_in (i := 269) (by decide +kernel) rfl
theorem L_Desk_249 : (Cond.fieldLink "ExecutiveDesk" 249 "ExecutiveDesk" "clock" "I") ∈ ed_tb := ed_in (i := 270) (by decide +kernel) rfl
theorem L_Desk_163 : (Cond.fieldLink "ExecutiveDesk" 163 "ExecutiveDesk" "currentLevel" "I") ∈ ed_tb := ed_in (i := 271) (by decide +kernel) rfl
theorem L_Desk_54 : (Cond.methodLink "ExecutiveDesk" 54 ⟨"ExecutiveDesk", "isWithin", "(III)Z"⟩) ∈ ed_tb := ed_in (i := 301) (by decide +kernel) rfl
theorem L_Desk_65 : (Cond.methodLink "ExecutiveDesk" 65 ⟨"ExecutiveDesk$ProcessState", "hasEnded", "()Z"⟩) ∈ ed_tb := ed_in (i := 308) (by decide +kernel) rfl
theorem L_Desk_86 : (Cond.methodLink "ExecutiveDesk" 86 ⟨"ExecutiveDesk$Scheduler", "makeReady", "(I)V"⟩) ∈ ed_tb := ed_in (i := 312) (by decide +kernel) rfl
theorem L_Desk_89 : (Cond.methodLink "ExecutiveDesk" 89 ⟨"ExecutiveDesk", "lookWhoRuns", "()V"⟩) ∈ ed_tb := ed_in (i := 320) (by decide +kernel) rfl
theorem L_Desk_313 : (Cond.methodLink "ExecutiveDesk" 313 ⟨"ExecutiveDesk$Scheduler", "look", "()V"⟩) ∈ ed_tb := ed_in (i := 324) (by decide +kernel) rfl
theorem L_Desk_95 : (Cond.methodLink "ExecutiveDesk" 95 ⟨"ExecutiveDesk", "mostAtFirst", "(I)I"⟩) ∈ ed_tb := ed_in (i := 348) (by decide +kernel) rfl
theorem L_Desk_99 : (Cond.methodLink "ExecutiveDesk" 99 ⟨"ExecutiveDesk", "objectNamed", "(I)I"⟩) ∈ ed_tb := ed_in (i := 351) (by decide +kernel) rfl
theorem L_Desk_267 : (Cond.methodLink "ExecutiveDesk" 267 ⟨"ExecutiveDesk$ObjectState", "currentName", "()I"⟩) ∈ ed_tb := ed_in (i := 355) (by decide +kernel) rfl
theorem L_Desk_102 : (Cond.methodLink "ExecutiveDesk" 102 ⟨"ExecutiveDesk", "processOfRunning", "()LExecutiveDesk$ProcessState;"⟩) ∈ ed_tb := ed_in (i := 359) (by decide +kernel) rfl
theorem L_Desk_106 : (Cond.methodLink "ExecutiveDesk" 106 ⟨"ExecutiveDesk$ProcessState", "freeHandle", "()I"⟩) ∈ ed_tb := ed_in (i := 363) (by decide +kernel) rfl
theorem L_Desk_110 : (Cond.methodLink "ExecutiveDesk" 110 ⟨"ExecutiveDesk", "freeObject", "()I"⟩) ∈ ed_tb := ed_in (i := 367) (by decide +kernel) rfl
theorem L_Desk_316 : (Cond.methodLink "ExecutiveDesk" 316 ⟨"ExecutiveDesk$ObjectState", "isThere", "()Z"⟩) ∈ ed_tb := ed_in (i := 371) (by decide +kernel) rfl
theorem L_Desk_113 : (Cond.methodLink "ExecutiveDesk" 113 ⟨"ExecutiveDesk$ObjectState", "begin", "(III)V"⟩) ∈ ed_tb := ed_in (i := 375) (by decide +kernel) rfl
theorem L_Desk_120 : (Cond.methodLink "ExecutiveDesk" 120 ⟨"ExecutiveDesk", "giveHandle", "(LExecutiveDesk$ProcessState;III)V"⟩) ∈ ed_tb := ed_in (i := 379) (by decide +kernel) rfl
theorem L_Desk_128 : (Cond.methodLink "ExecutiveDesk" 128 ⟨"ExecutiveDesk$RuleList", "grants", "(II)Z"⟩) ∈ ed_tb := ed_in (i := 387) (by decide +kernel) rfl
theorem L_Desk_134 : (Cond.methodLink "ExecutiveDesk" 134 ⟨"ExecutiveDesk$ProcessState", "objectOf", "(I)I"⟩) ∈ ed_tb := ed_in (i := 395) (by decide +kernel) rfl
theorem L_Desk_137 : (Cond.methodLink "ExecutiveDesk" 137 ⟨"ExecutiveDesk", "dropHandle", "(LExecutiveDesk$ProcessState;I)V"⟩) ∈ ed_tb := ed_in (i := 400) (by decide +kernel) rfl
theorem L_Desk_144 : (Cond.methodLink "ExecutiveDesk" 144 ⟨"ExecutiveDesk$ProcessState", "lacks", "(II)Z"⟩) ∈ ed_tb := ed_in (i := 408) (by decide +kernel) rfl
theorem L_Desk_150 : (Cond.methodLink "ExecutiveDesk" 150 ⟨"ExecutiveDesk$RuleList", "append", "(III)V"⟩) ∈ ed_tb := ed_in (i := 417) (by decide +kernel) rfl
theorem L_Desk_156 : (Cond.methodLink "ExecutiveDesk" 156 ⟨"ExecutiveDesk", "canBeSetTo", "(II)Z"⟩) ∈ ed_tb := ed_in (i := 425) (by decide +kernel) rfl
theorem L_Desk_159 : (Cond.methodLink "ExecutiveDesk" 159 ⟨"ExecutiveDesk", "change", "(LExecutiveDesk$ObjectState;I)I"⟩) ∈ ed_tb := ed_in (i := 428) (by decide +kernel) rfl
theorem L_Desk_331 : (Cond.methodLink "ExecutiveDesk" 331 ⟨"ExecutiveDesk", "raiseCount", "(LExecutiveDesk$ObjectState;I)I"⟩) ∈ ed_tb := ed_in (i := 432) (by decide +kernel) rfl
theorem L_Desk_343 : (Cond.methodLink "ExecutiveDesk" 343 ⟨"ExecutiveDesk", "release", "()V"⟩) ∈ ed_tb := ed_in (i := 436) (by decide +kernel) rfl
theorem L_Desk_371 : (Cond.methodLink "ExecutiveDesk" 371 ⟨"ExecutiveDesk$Row", "get", "(I)I"⟩) ∈ ed_tb := ed_in (i := 440) (by decide +kernel) rfl
theorem L_Desk_185 : (Cond.methodLink "ExecutiveDesk" 185 ⟨"ExecutiveDesk", "satisfy", "(I)I"⟩) ∈ ed_tb := ed_in (i := 444) (by decide +kernel) rfl
theorem L_Desk_349 : (Cond.methodLink "ExecutiveDesk" 349 ⟨"ExecutiveDesk", "satisfyAll", "(I)I"⟩) ∈ ed_tb := ed_in (i := 448) (by decide +kernel) rfl
theorem L_Desk_358 : (Cond.methodLink "ExecutiveDesk" 358 ⟨"ExecutiveDesk$ObjectState", "isSignaledFor", "(I)Z"⟩) ∈ ed_tb := ed_in (i := 452) (by decide +kernel) rfl
theorem L_Desk_361 : (Cond.methodLink "ExecutiveDesk" 361 ⟨"ExecutiveDesk$ObjectState", "take", "(I)Z"⟩) ∈ ed_tb := ed_in (i := 456) (by decide +kernel) rfl
theorem L_Desk_352 : (Cond.methodLink "ExecutiveDesk" 352 ⟨"ExecutiveDesk", "satisfyAny", "(I)I"⟩) ∈ ed_tb := ed_in (i := 460) (by decide +kernel) rfl
theorem L_Desk_374 : (Cond.methodLink "ExecutiveDesk" 374 ⟨"ExecutiveDesk", "endWait", "(II)V"⟩) ∈ ed_tb := ed_in (i := 464) (by decide +kernel) rfl
theorem L_Desk_368 : (Cond.methodLink "ExecutiveDesk" 368 ⟨"ExecutiveDesk$Row", "removeValue", "(I)V"⟩) ∈ ed_tb := ed_in (i := 468) (by decide +kernel) rfl
theorem L_Desk_364 : (Cond.methodLink "ExecutiveDesk" 364 ⟨"ExecutiveDesk", "pointToPlacesOf", "(LExecutiveDesk$ThreadState;I)V"⟩) ∈ ed_tb := ed_in (i := 472) (by decide +kernel) rfl
theorem L_Desk_334 : (Cond.methodLink "ExecutiveDesk" 334 ⟨"ExecutiveDesk", "giveBack", "(LExecutiveDesk$ObjectState;)I"⟩) ∈ ed_tb := ed_in (i := 476) (by decide +kernel) rfl
theorem L_Desk_337 : (Cond.methodLink "ExecutiveDesk" 337 ⟨"ExecutiveDesk", "startTimer", "(LExecutiveDesk$ObjectState;I)I"⟩) ∈ ed_tb := ed_in (i := 480) (by decide +kernel) rfl
theorem L_Desk_340 : (Cond.methodLink "ExecutiveDesk" 340 ⟨"ExecutiveDesk", "turnTo", "(LExecutiveDesk$ObjectState;I)I"⟩) ∈ ed_tb := ed_in (i := 484) (by decide +kernel) rfl
theorem L_Desk_166 : (Cond.methodLink "ExecutiveDesk" 166 ⟨"ExecutiveDesk", "canBeAwaited", "(LExecutiveDesk$ProcessState;III)Z"⟩) ∈ ed_tb := ed_in (i := 492) (by decide +kernel) rfl
theorem L_Desk_215 : (Cond.methodLink "ExecutiveDesk" 215 ⟨"ExecutiveDesk", "isOfType", "(III)Z"⟩) ∈ ed_tb := ed_in (i := 496) (by decide +kernel) rfl
theorem L_Desk_170 : (Cond.methodLink "ExecutiveDesk" 170 ⟨"ExecutiveDesk$ThreadState", "wish", "(IIII)V"⟩) ∈ ed_tb := ed_in (i := 500) (by decide +kernel) rfl
theorem L_Desk_182 : (Cond.methodLink "ExecutiveDesk" 182 ⟨"ExecutiveDesk$ThreadState", "deliverCalls", "()V"⟩) ∈ ed_tb := ed_in (i := 504) (by decide +kernel) rfl
theorem L_Desk_188 : (Cond.methodLink "ExecutiveDesk" 188 ⟨"ExecutiveDesk", "beginWait", "(II)V"⟩) ∈ ed_tb := ed_in (i := 509) (by decide +kernel) rfl
theorem L_Desk_195 : (Cond.methodLink "ExecutiveDesk" 195 ⟨"ExecutiveDesk$Row", "addLast", "(I)V"⟩) ∈ ed_tb := ed_in (i := 513) (by decide +kernel) rfl
theorem L_Desk_198 : (Cond.methodLink "ExecutiveDesk" 198 ⟨"ExecutiveDesk", "alertIfDue", "(I)V"⟩) ∈ ed_tb := ed_in (i := 518) (by decide +kernel) rfl
theorem L_Desk_201 : (Cond.methodLink "ExecutiveDesk" 201 ⟨"ExecutiveDesk$Row", "removeFirst", "()I"⟩) ∈ ed_tb := ed_in (i := 526) (by decide +kernel) rfl
theorem L_Desk_207 : (Cond.methodLink "ExecutiveDesk" 207 ⟨"ExecutiveDesk", "finishFirst", "(LExecutiveDesk$ObjectState;Z)V"⟩) ∈ ed_tb := ed_in (i := 527) (by decide +kernel) rfl
theorem L_Desk_377 : (Cond.methodLink "ExecutiveDesk" 377 ⟨"ExecutiveDesk", "conclude", "(LExecutiveDesk$TransferState;II)V"⟩) ∈ ed_tb := ed_in (i := 531) (by decide +kernel) rfl
theorem L_Desk_223 : (Cond.methodLink "ExecutiveDesk" 223 ⟨"ExecutiveDesk", "pointToObjectsOf", "(LExecutiveDesk$TransferState;I)V"⟩) ∈ ed_tb := ed_in (i := 535) (by decide +kernel) rfl
theorem L_Desk_381 : (Cond.methodLink "ExecutiveDesk" 381 ⟨"ExecutiveDesk$ObjectState", "hasLayer", "(I)Z"⟩) ∈ ed_tb := ed_in (i := 539) (by decide +kernel) rfl
theorem L_Desk_211 : (Cond.methodLink "ExecutiveDesk" 211 ⟨"ExecutiveDesk", "isThere", "(I)Z"⟩) ∈ ed_tb := ed_in (i := 547) (by decide +kernel) rfl
theorem L_Desk_218 : (Cond.methodLink "ExecutiveDesk" 218 ⟨"ExecutiveDesk", "freeTransfer", "()I"⟩) ∈ ed_tb := ed_in (i := 555) (by decide +kernel) rfl
theorem L_Desk_221 : (Cond.methodLink "ExecutiveDesk" 221 ⟨"ExecutiveDesk$TransferState", "begin", "(IIII)V"⟩) ∈ ed_tb := ed_in (i := 559) (by decide +kernel) rfl
theorem L_Desk_227 : (Cond.methodLink "ExecutiveDesk" 227 ⟨"ExecutiveDesk", "sendDown", "(II)V"⟩) ∈ ed_tb := ed_in (i := 563) (by decide +kernel) rfl
theorem L_Desk_384 : Cond.methodLink "ExecutiveDesk" 384 Lib.Math.min.name ∈ ed_tb := ed_in (i := 567) (by decide +kernel) rfl
theorem L_Desk_230 : (Cond.methodLink "ExecutiveDesk" 230 ⟨"ExecutiveDesk", "isPending", "(I)Z"⟩) ∈ ed_tb := ed_in (i := 574) (by decide +kernel) rfl
theorem L_Desk_233 : (Cond.methodLink "ExecutiveDesk" 233 ⟨"ExecutiveDesk", "withdraw", "(I)I"⟩) ∈ ed_tb := ed_in (i := 578) (by decide +kernel) rfl
theorem L_Desk_321 : (Cond.methodLink "ExecutiveDesk" 321 ⟨"ExecutiveDesk$Row", "first", "()I"⟩) ∈ ed_tb := ed_in (i := 582) (by decide +kernel) rfl
theorem L_Desk_236 : (Cond.methodLink "ExecutiveDesk" 236 ⟨"ExecutiveDesk", "abandonMutantsOf", "(I)V"⟩) ∈ ed_tb := ed_in (i := 590) (by decide +kernel) rfl
theorem L_Desk_242 : (Cond.methodLink "ExecutiveDesk" 242 ⟨"ExecutiveDesk", "dropAllHandles", "(LExecutiveDesk$ProcessState;)V"⟩) ∈ ed_tb := ed_in (i := 594) (by decide +kernel) rfl
theorem L_Desk_246 : (Cond.methodLink "ExecutiveDesk" 246 ⟨"ExecutiveDesk", "passOneTick", "()V"⟩) ∈ ed_tb := ed_in (i := 602) (by decide +kernel) rfl
theorem L_Desk_393 : (Cond.methodLink "ExecutiveDesk" 393 ⟨"ExecutiveDesk", "signalTimersDue", "()V"⟩) ∈ ed_tb := ed_in (i := 606) (by decide +kernel) rfl
theorem L_Desk_396 : (Cond.methodLink "ExecutiveDesk" 396 ⟨"ExecutiveDesk", "endWaitsTimedOut", "()V"⟩) ∈ ed_tb := ed_in (i := 610) (by decide +kernel) rfl
theorem L_Desk_399 : (Cond.methodLink "ExecutiveDesk" 399 ⟨"ExecutiveDesk$Scheduler", "useQuantum", "()V"⟩) ∈ ed_tb := ed_in (i := 614) (by decide +kernel) rfl
theorem L_Desk_276 : (Cond.methodLink "ExecutiveDesk" 276 ⟨"ExecutiveDesk", "detailOf", "(LExecutiveDesk$ObjectState;)I"⟩) ∈ ed_tb := ed_in (i := 627) (by decide +kernel) rfl
theorem L_Desk_301 : (Cond.methodLink "ExecutiveDesk" 301 ⟨"ExecutiveDesk$ProcessState", "rightsOf", "(I)I"⟩) ∈ ed_tb := ed_in (i := 639) (by decide +kernel) rfl
theorem L_Desk_304 : (Cond.methodLink "ExecutiveDesk" 304 ⟨"ExecutiveDesk", "objectsThere", "()I"⟩) ∈ ed_tb := ed_in (i := 644) (by decide +kernel) rfl
def y_Sched_init : MethodName := ⟨"ExecutiveDesk$Scheduler", "<init>", "()V"⟩
theorem mc_Sched_init : Cond.code y_Sched_init prog_6_method_1_code 2 none ∈ ed_tb := ed_in (i := 25) (by decide +kernel) rfl
def y_Sched_makeReady : MethodName := ⟨"ExecutiveDesk$Scheduler", "makeReady", "(I)V"⟩
theorem mc_Sched_makeReady : Cond.code y_Sched_makeReady prog_6_method_2_code 2 none ∈ ed_tb := ed_in (i := 315) (by decide +kernel) rfl
def y_Sched_look : MethodName := ⟨"ExecutiveDesk$Scheduler", "look", "()V"⟩
theorem mc_Sched_look : Cond.code y_Sched_look prog_6_method_3_code 3 none ∈ ed_tb := ed_in (i := 327) (by decide +kernel) rfl
def y_Sched_useQuantum : MethodName := ⟨"ExecutiveDesk$Scheduler", "useQuantum", "()V"⟩
theorem mc_Sched_useQuantum : Cond.code y_Sched_useQuantum prog_6_method_4_code 2 none ∈ ed_tb := ed_in (i := 617) (by decide +kernel) rfl
def y_Sched_bestPriority : MethodName := ⟨"ExecutiveDesk$Scheduler", "bestPriority", "()I"⟩
theorem mc_Sched_bestPriority : Cond.code y_Sched_bestPriority prog_6_method_5_code 2 (some .int) ∈ ed_tb := ed_in (i := 331) (by decide +kernel) rfl
def y_Sched_runFirstOf : MethodName := ⟨"ExecutiveDesk$Scheduler", "runFirstOf", "(I)V"⟩
theorem mc_Sched_runFirstOf : Cond.code y_Sched_runFirstOf prog_6_method_6_code 2 none ∈ ed_tb := ed_in (i := 339) (by decide +kernel) rfl
theorem L_Sched_3 : (Cond.methodLink "ExecutiveDesk$Scheduler" 3 ⟨"java/lang/Object", "<init>", "()V"⟩) ∈ ed_tb := ed_in (i := 26) (by decide +kernel) rfl
theorem L_Sched_56 : (Cond.fieldLink "ExecutiveDesk$Scheduler" 56 "ExecutiveDesk$Row" "size" "I") ∈ ed_tb := ed_in (i := 46) (by decide +kernel) rfl
theorem L_Sched_37 : (Cond.fieldLink "ExecutiveDesk$Scheduler" 37 "ExecutiveDesk$ThreadState" "priority" "I") ∈ ed_tb := ed_in (i := 59) (by decide +kernel) rfl
theorem L_Sched_34 : (Cond.fieldLink "ExecutiveDesk$Scheduler" 34 "ExecutiveDesk$ThreadState" "state" "I") ∈ ed_tb := ed_in (i := 62) (by decide +kernel) rfl
theorem L_Sched_53 : (Cond.fieldLink "ExecutiveDesk$Scheduler" 53 "ExecutiveDesk$ThreadState" "used" "I") ∈ ed_tb := ed_in (i := 70) (by decide +kernel) rfl
theorem L_Sched_31 : (Cond.methodLink "ExecutiveDesk$Scheduler" 31 ⟨"ExecutiveDesk$Row", "<init>", "(I)V"⟩) ∈ ed_tb := ed_in (i := 103) (by decide +kernel) rfl
theorem L_Sched_11 : (Cond.fieldLink "ExecutiveDesk$Scheduler" 11 "ExecutiveDesk$Scheduler" "threads" "[LExecutiveDesk$ThreadState;") ∈ ed_tb := ed_in (i := 104) (by decide +kernel) rfl
theorem L_Sched_19 : (Cond.fieldLink "ExecutiveDesk$Scheduler" 19 "ExecutiveDesk$Scheduler" "ready" "[LExecutiveDesk$Row;") ∈ ed_tb := ed_in (i := 106) (by decide +kernel) rfl
theorem L_Sched_23 : (Cond.fieldLink "ExecutiveDesk$Scheduler" 23 "ExecutiveDesk$Scheduler" "running" "I") ∈ ed_tb := ed_in (i := 107) (by decide +kernel) rfl
theorem L_Sched_27 : (Cond.fieldLink "ExecutiveDesk$Scheduler" 27 "ExecutiveDesk$Scheduler" "lastRan" "I") ∈ ed_tb := ed_in (i := 109) (by decide +kernel) rfl
theorem L_Sched_65 : (Cond.fieldLink "ExecutiveDesk$Scheduler" 65 "ExecutiveDesk$Scheduler" "switches" "I") ∈ ed_tb := ed_in (i := 110) (by decide +kernel) rfl
theorem L_Sched_40 : (Cond.methodLink "ExecutiveDesk$Scheduler" 40 ⟨"ExecutiveDesk$Row", "addLast", "(I)V"⟩) ∈ ed_tb := ed_in (i := 316) (by decide +kernel) rfl
theorem L_Sched_43 : (Cond.methodLink "ExecutiveDesk$Scheduler" 43 ⟨"ExecutiveDesk$Scheduler", "bestPriority", "()I"⟩) ∈ ed_tb := ed_in (i := 328) (by decide +kernel) rfl
theorem L_Sched_47 : (Cond.methodLink "ExecutiveDesk$Scheduler" 47 ⟨"ExecutiveDesk$Row", "addFirst", "(I)V"⟩) ∈ ed_tb := ed_in (i := 332) (by decide +kernel) rfl
theorem L_Sched_50 : (Cond.methodLink "ExecutiveDesk$Scheduler" 50 ⟨"ExecutiveDesk$Scheduler", "runFirstOf", "(I)V"⟩) ∈ ed_tb := ed_in (i := 336) (by decide +kernel) rfl
theorem L_Sched_62 : (Cond.methodLink "ExecutiveDesk$Scheduler" 62 ⟨"ExecutiveDesk$Row", "removeFirst", "()I"⟩) ∈ ed_tb := ed_in (i := 340) (by decide +kernel) rfl
theorem L_Sched_59 : (Cond.methodLink "ExecutiveDesk$Scheduler" 59 ⟨"ExecutiveDesk$Scheduler", "makeReady", "(I)V"⟩) ∈ ed_tb := ed_in (i := 618) (by decide +kernel) rfl
def y_Thr_init : MethodName := ⟨"ExecutiveDesk$ThreadState", "<init>", "()V"⟩
theorem mc_Thr_init : Cond.code y_Thr_init prog_7_method_1_code 1 none ∈ ed_tb := ed_in (i := 34) (by decide +kernel) rfl
def y_Thr_wish : MethodName := ⟨"ExecutiveDesk$ThreadState", "wish", "(IIII)V"⟩
theorem mc_Thr_wish : Cond.code y_Thr_wish prog_7_method_2_code 5 none ∈ ed_tb := ed_in (i := 503) (by decide +kernel) rfl
def y_Thr_deliverCalls : MethodName := ⟨"ExecutiveDesk$ThreadState", "deliverCalls", "()V"⟩
theorem mc_Thr_deliverCalls : Cond.code y_Thr_deliverCalls prog_7_method_3_code 2 none ∈ ed_tb := ed_in (i := 507) (by decide +kernel) rfl
theorem L_Thr_3 : (Cond.methodLink "ExecutiveDesk$ThreadState" 3 ⟨"java/lang/Object", "<init>", "()V"⟩) ∈ ed_tb := ed_in (i := 35) (by decide +kernel) rfl
theorem L_Thr_11 : (Cond.methodLink "ExecutiveDesk$ThreadState" 11 ⟨"ExecutiveDesk$Row", "<init>", "(I)V"⟩) ∈ ed_tb := ed_in (i := 38) (by decide +kernel) rfl
theorem L_Thr_41 : (Cond.fieldLink "ExecutiveDesk$ThreadState" 41 "ExecutiveDesk$Row" "size" "I") ∈ ed_tb := ed_in (i := 45) (by decide +kernel) rfl
theorem L_Thr_14 : (Cond.fieldLink "ExecutiveDesk$ThreadState" 14 "ExecutiveDesk$ThreadState" "calls" "LExecutiveDesk$Row;") ∈ ed_tb := ed_in (i := 54) (by decide +kernel) rfl
theorem L_Thr_20 : (Cond.fieldLink "ExecutiveDesk$ThreadState" 20 "ExecutiveDesk$ThreadState" "places" "[I") ∈ ed_tb := ed_in (i := 56) (by decide +kernel) rfl
theorem L_Thr_24 : (Cond.fieldLink "ExecutiveDesk$ThreadState" 24 "ExecutiveDesk$ThreadState" "state" "I") ∈ ed_tb := ed_in (i := 61) (by decide +kernel) rfl
theorem L_Thr_28 : (Cond.fieldLink "ExecutiveDesk$ThreadState" 28 "ExecutiveDesk$ThreadState" "result" "I") ∈ ed_tb := ed_in (i := 64) (by decide +kernel) rfl
theorem L_Thr_51 : (Cond.fieldLink "ExecutiveDesk$ThreadState" 51 "ExecutiveDesk$ThreadState" "delivered" "I") ∈ ed_tb := ed_in (i := 66) (by decide +kernel) rfl
theorem L_Thr_48 : (Cond.fieldLink "ExecutiveDesk$ThreadState" 48 "ExecutiveDesk$ThreadState" "latestCall" "I") ∈ ed_tb := ed_in (i := 68) (by decide +kernel) rfl
theorem L_Thr_34 : (Cond.fieldLink "ExecutiveDesk$ThreadState" 34 "ExecutiveDesk$ThreadState" "wantsAll" "Z") ∈ ed_tb := ed_in (i := 72) (by decide +kernel) rfl
theorem L_Thr_38 : (Cond.fieldLink "ExecutiveDesk$ThreadState" 38 "ExecutiveDesk$ThreadState" "mayBeAlerted" "Z") ∈ ed_tb := ed_in (i := 74) (by decide +kernel) rfl
theorem L_Thr_31 : (Cond.fieldLink "ExecutiveDesk$ThreadState" 31 "ExecutiveDesk$ThreadState" "deadline" "I") ∈ ed_tb := ed_in (i := 76) (by decide +kernel) rfl
theorem L_Thr_44 : (Cond.methodLink "ExecutiveDesk$ThreadState" 44 ⟨"ExecutiveDesk$Row", "removeFirst", "()I"⟩) ∈ ed_tb := ed_in (i := 508) (by decide +kernel) rfl
def y_Row_init : MethodName := ⟨"ExecutiveDesk$Row", "<init>", "(I)V"⟩
theorem mc_Row_init : Cond.code y_Row_init prog_4_method_1_code 2 none ∈ ed_tb := ed_in (i := 40) (by decide +kernel) rfl
def y_Row_get : MethodName := ⟨"ExecutiveDesk$Row", "get", "(I)I"⟩
theorem mc_Row_get : Cond.code y_Row_get prog_4_method_2_code 2 (some .int) ∈ ed_tb := ed_in (i := 443) (by decide +kernel) rfl
def y_Row_first : MethodName := ⟨"ExecutiveDesk$Row", "first", "()I"⟩
theorem mc_Row_first : Cond.code y_Row_first prog_4_method_3_code 1 (some .int) ∈ ed_tb := ed_in (i := 585) (by decide +kernel) rfl
def y_Row_addLast : MethodName := ⟨"ExecutiveDesk$Row", "addLast", "(I)V"⟩
theorem mc_Row_addLast : Cond.code y_Row_addLast prog_4_method_4_code 2 none ∈ ed_tb := ed_in (i := 319) (by decide +kernel) rfl
def y_Row_addFirst : MethodName := ⟨"ExecutiveDesk$Row", "addFirst", "(I)V"⟩
theorem mc_Row_addFirst : Cond.code y_Row_addFirst prog_4_method_5_code 3 none ∈ ed_tb := ed_in (i := 335) (by decide +kernel) rfl
def y_Row_removeFirst : MethodName := ⟨"ExecutiveDesk$Row", "removeFirst", "()I"⟩
theorem mc_Row_removeFirst : Cond.code y_Row_removeFirst prog_4_method_6_code 3 (some .int) ∈ ed_tb := ed_in (i := 343) (by decide +kernel) rfl
def y_Row_removeValue : MethodName := ⟨"ExecutiveDesk$Row", "removeValue", "(I)V"⟩
theorem mc_Row_removeValue : Cond.code y_Row_removeValue prog_4_method_7_code 4 none ∈ ed_tb := ed_in (i := 471) (by decide +kernel) rfl
theorem L_Row_3 : (Cond.methodLink "ExecutiveDesk$Row" 3 ⟨"java/lang/Object", "<init>", "()V"⟩) ∈ ed_tb := ed_in (i := 41) (by decide +kernel) rfl
theorem L_Row_9 : (Cond.fieldLink "ExecutiveDesk$Row" 9 "ExecutiveDesk$Row" "items" "[I") ∈ ed_tb := ed_in (i := 42) (by decide +kernel) rfl
theorem L_Row_15 : (Cond.fieldLink "ExecutiveDesk$Row" 15 "ExecutiveDesk$Row" "size" "I") ∈ ed_tb := ed_in (i := 43) (by decide +kernel) rfl
def y_Proc_init : MethodName := ⟨"ExecutiveDesk$ProcessState", "<init>", "()V"⟩
theorem mc_Proc_init : Cond.code y_Proc_init prog_3_method_1_code 2 none ∈ ed_tb := ed_in (i := 132) (by decide +kernel) rfl
def y_Proc_hasEnded : MethodName := ⟨"ExecutiveDesk$ProcessState", "hasEnded", "()Z"⟩
theorem mc_Proc_hasEnded : Cond.code y_Proc_hasEnded prog_3_method_2_code 1 (some .boolean) ∈ ed_tb := ed_in (i := 311) (by decide +kernel) rfl
def y_Proc_objectOf : MethodName := ⟨"ExecutiveDesk$ProcessState", "objectOf", "(I)I"⟩
theorem mc_Proc_objectOf : Cond.code y_Proc_objectOf prog_3_method_3_code 2 (some .int) ∈ ed_tb := ed_in (i := 398) (by decide +kernel) rfl
def y_Proc_rightsOf : MethodName := ⟨"ExecutiveDesk$ProcessState", "rightsOf", "(I)I"⟩
theorem mc_Proc_rightsOf : Cond.code y_Proc_rightsOf prog_3_method_4_code 2 (some .int) ∈ ed_tb := ed_in (i := 416) (by decide +kernel) rfl
def y_Proc_lacks : MethodName := ⟨"ExecutiveDesk$ProcessState", "lacks", "(II)Z"⟩
theorem mc_Proc_lacks : Cond.code y_Proc_lacks prog_3_method_5_code 3 (some .boolean) ∈ ed_tb := ed_in (i := 411) (by decide +kernel) rfl
def y_Proc_freeHandle : MethodName := ⟨"ExecutiveDesk$ProcessState", "freeHandle", "()I"⟩
theorem mc_Proc_freeHandle : Cond.code y_Proc_freeHandle prog_3_method_6_code 2 (some .int) ∈ ed_tb := ed_in (i := 366) (by decide +kernel) rfl
theorem L_Proc_3 : (Cond.methodLink "ExecutiveDesk$ProcessState" 3 ⟨"java/lang/Object", "<init>", "()V"⟩) ∈ ed_tb := ed_in (i := 133) (by decide +kernel) rfl
theorem L_Proc_9 : (Cond.fieldLink "ExecutiveDesk$ProcessState" 9 "ExecutiveDesk$ProcessState" "handleObjects" "[I") ∈ ed_tb := ed_in (i := 134) (by decide +kernel) rfl
theorem L_Proc_15 : (Cond.fieldLink "ExecutiveDesk$ProcessState" 15 "ExecutiveDesk$ProcessState" "handleRights" "[I") ∈ ed_tb := ed_in (i := 136) (by decide +kernel) rfl
theorem L_Proc_18 : (Cond.fieldLink "ExecutiveDesk$ProcessState" 18 "ExecutiveDesk$ProcessState" "threadsMade" "I") ∈ ed_tb := ed_in (i := 139) (by decide +kernel) rfl
theorem L_Proc_22 : (Cond.fieldLink "ExecutiveDesk$ProcessState" 22 "ExecutiveDesk$ProcessState" "threadsAlive" "I") ∈ ed_tb := ed_in (i := 141) (by decide +kernel) rfl
theorem L_Proc_29 : (Cond.methodLink "ExecutiveDesk$ProcessState" 29 ⟨"ExecutiveDesk$ProcessState", "objectOf", "(I)I"⟩) ∈ ed_tb := ed_in (i := 412) (by decide +kernel) rfl
theorem L_Proc_33 : (Cond.methodLink "ExecutiveDesk$ProcessState" 33 ⟨"ExecutiveDesk$ProcessState", "rightsOf", "(I)I"⟩) ∈ ed_tb := ed_in (i := 413) (by decide +kernel) rfl
def y_Obj_init : MethodName := ⟨"ExecutiveDesk$ObjectState", "<init>", "()V"⟩
theorem mc_Obj_init : Cond.code y_Obj_init prog_2_method_1_code 1 none ∈ ed_tb := ed_in (i := 157) (by decide +kernel) rfl
def y_Obj_begin : MethodName := ⟨"ExecutiveDesk$ObjectState", "begin", "(III)V"⟩
theorem mc_Obj_begin : Cond.code y_Obj_begin prog_2_method_2_code 4 none ∈ ed_tb := ed_in (i := 378) (by decide +kernel) rfl
def y_Obj_isThere : MethodName := ⟨"ExecutiveDesk$ObjectState", "isThere", "()Z"⟩
theorem mc_Obj_isThere : Cond.code y_Obj_isThere prog_2_method_3_code 1 (some .boolean) ∈ ed_tb := ed_in (i := 374) (by decide +kernel) rfl
def y_Obj_currentName : MethodName := ⟨"ExecutiveDesk$ObjectState", "currentName", "()I"⟩
theorem mc_Obj_currentName : Cond.code y_Obj_currentName prog_2_method_4_code 1 (some .int) ∈ ed_tb := ed_in (i := 358) (by decide +kernel) rfl
def y_Obj_hasLayer : MethodName := ⟨"ExecutiveDesk$ObjectState", "hasLayer", "(I)Z"⟩
theorem mc_Obj_hasLayer : Cond.code y_Obj_hasLayer prog_2_method_5_code 2 (some .boolean) ∈ ed_tb := ed_in (i := 542) (by decide +kernel) rfl
def y_Obj_isSignaledFor : MethodName := ⟨"ExecutiveDesk$ObjectState", "isSignaledFor", "(I)Z"⟩
theorem mc_Obj_isSignaledFor : Cond.code y_Obj_isSignaledFor prog_2_method_6_code 2 (some .boolean) ∈ ed_tb := ed_in (i := 455) (by decide +kernel) rfl
def y_Obj_take : MethodName := ⟨"ExecutiveDesk$ObjectState", "take", "(I)Z"⟩
theorem mc_Obj_take : Cond.code y_Obj_take prog_2_method_7_code 3 (some .boolean) ∈ ed_tb := ed_in (i := 459) (by decide +kernel) rfl
theorem L_Obj_50 : (Cond.fieldLink "ExecutiveDesk$ObjectState" 50 "ExecutiveDesk$Row" "size" "I") ∈ ed_tb := ed_in (i := 44) (by decide +kernel) rfl
theorem L_Obj_3 : (Cond.methodLink "ExecutiveDesk$ObjectState" 3 ⟨"java/lang/Object", "<init>", "()V"⟩) ∈ ed_tb := ed_in (i := 158) (by decide +kernel) rfl
theorem L_Obj_47 : (Cond.fieldLink "ExecutiveDesk$ObjectState" 47 "ExecutiveDesk$RuleList" "size" "I") ∈ ed_tb := ed_in (i := 169) (by decide +kernel) rfl
theorem L_Obj_20 : (Cond.methodLink "ExecutiveDesk$ObjectState" 20 ⟨"ExecutiveDesk$Row", "<init>", "(I)V"⟩) ∈ ed_tb := ed_in (i := 181) (by decide +kernel) rfl
theorem L_Obj_12 : (Cond.fieldLink "ExecutiveDesk$ObjectState" 12 "ExecutiveDesk$ObjectState" "rules" "LExecutiveDesk$RuleList;") ∈ ed_tb := ed_in (i := 182) (by decide +kernel) rfl
theorem L_Obj_23 : (Cond.fieldLink "ExecutiveDesk$ObjectState" 23 "ExecutiveDesk$ObjectState" "row" "LExecutiveDesk$Row;") ∈ ed_tb := ed_in (i := 184) (by decide +kernel) rfl
theorem L_Obj_37 : (Cond.fieldLink "ExecutiveDesk$ObjectState" 37 "ExecutiveDesk$ObjectState" "type" "I") ∈ ed_tb := ed_in (i := 186) (by decide +kernel) rfl
theorem L_Obj_27 : (Cond.fieldLink "ExecutiveDesk$ObjectState" 27 "ExecutiveDesk$ObjectState" "name" "I") ∈ ed_tb := ed_in (i := 188) (by decide +kernel) rfl
theorem L_Obj_51 : (Cond.fieldLink "ExecutiveDesk$ObjectState" 51 "ExecutiveDesk$ObjectState" "handles" "I") ∈ ed_tb := ed_in (i := 189) (by decide +kernel) rfl
theorem L_Obj_54 : (Cond.fieldLink "ExecutiveDesk$ObjectState" 54 "ExecutiveDesk$ObjectState" "pointers" "I") ∈ ed_tb := ed_in (i := 191) (by decide +kernel) rfl
theorem L_Obj_40 : (Cond.fieldLink "ExecutiveDesk$ObjectState" 40 "ExecutiveDesk$ObjectState" "value" "I") ∈ ed_tb := ed_in (i := 193) (by decide +kernel) rfl
theorem L_Obj_31 : (Cond.fieldLink "ExecutiveDesk$ObjectState" 31 "ExecutiveDesk$ObjectState" "owner" "I") ∈ ed_tb := ed_in (i := 195) (by decide +kernel) rfl
theorem L_Obj_43 : (Cond.fieldLink "ExecutiveDesk$ObjectState" 43 "ExecutiveDesk$ObjectState" "abandoned" "Z") ∈ ed_tb := ed_in (i := 197) (by decide +kernel) rfl
theorem L_Obj_34 : (Cond.fieldLink "ExecutiveDesk$ObjectState" 34 "ExecutiveDesk$ObjectState" "due" "I") ∈ ed_tb := ed_in (i := 199) (by decide +kernel) rfl
def y_Rul_init : MethodName := ⟨"ExecutiveDesk$RuleList", "<init>", "()V"⟩
theorem mc_Rul_init : Cond.code y_Rul_init prog_5_method_1_code 1 none ∈ ed_tb := ed_in (i := 163) (by decide +kernel) rfl
def y_Rul_append : MethodName := ⟨"ExecutiveDesk$RuleList", "append", "(III)V"⟩
theorem mc_Rul_append : Cond.code y_Rul_append prog_5_method_2_code 4 none ∈ ed_tb := ed_in (i := 420) (by decide +kernel) rfl
def y_Rul_grants : MethodName := ⟨"ExecutiveDesk$RuleList", "grants", "(II)Z"⟩
theorem mc_Rul_grants : Cond.code y_Rul_grants prog_5_method_3_code 5 (some .boolean) ∈ ed_tb := ed_in (i := 390) (by decide +kernel) rfl
theorem L_Rul_3 : (Cond.methodLink "ExecutiveDesk$RuleList" 3 ⟨"java/lang/Object", "<init>", "()V"⟩) ∈ ed_tb := ed_in (i := 164) (by decide +kernel) rfl
theorem L_Rul_9 : (Cond.fieldLink "ExecutiveDesk$RuleList" 9 "ExecutiveDesk$RuleList" "kinds" "[I") ∈ ed_tb := ed_in (i := 165) (by decide +kernel) rfl
theorem L_Rul_15 : (Cond.fieldLink "ExecutiveDesk$RuleList" 15 "ExecutiveDesk$RuleList" "groups" "[I") ∈ ed_tb := ed_in (i := 166) (by decide +kernel) rfl
theorem L_Rul_18 : (Cond.fieldLink "ExecutiveDesk$RuleList" 18 "ExecutiveDesk$RuleList" "rights" "[I") ∈ ed_tb := ed_in (i := 167) (by decide +kernel) rfl
theorem L_Rul_21 : (Cond.fieldLink "ExecutiveDesk$RuleList" 21 "ExecutiveDesk$RuleList" "size" "I") ∈ ed_tb := ed_in (i := 168) (by decide +kernel) rfl
def y_Tra_init : MethodName := ⟨"ExecutiveDesk$TransferState", "<init>", "()V"⟩
theorem mc_Tra_init : Cond.code y_Tra_init prog_8_method_1_code 1 none ∈ ed_tb := ed_in (i := 225) (by decide +kernel) rfl
def y_Tra_begin : MethodName := ⟨"ExecutiveDesk$TransferState", "begin", "(IIII)V"⟩
theorem mc_Tra_begin : Cond.code y_Tra_begin prog_8_method_2_code 5 none ∈ ed_tb := ed_in (i := 562) (by decide +kernel) rfl
theorem L_Tra_3 : (Cond.methodLink "ExecutiveDesk$TransferState" 3 ⟨"java/lang/Object", "<init>", "()V"⟩) ∈ ed_tb := ed_in (i := 226) (by decide +kernel) rfl
theorem L_Tra_9 : (Cond.fieldLink "ExecutiveDesk$TransferState" 9 "ExecutiveDesk$TransferState" "status" "I") ∈ ed_tb := ed_in (i := 227) (by decide +kernel) rfl
theorem L_Tra_15 : (Cond.fieldLink "ExecutiveDesk$TransferState" 15 "ExecutiveDesk$TransferState" "amount" "I") ∈ ed_tb := ed_in (i := 229) (by decide +kernel) rfl
theorem L_Tra_18 : (Cond.fieldLink "ExecutiveDesk$TransferState" 18 "ExecutiveDesk$TransferState" "thread" "I") ∈ ed_tb := ed_in (i := 231) (by decide +kernel) rfl
theorem L_Tra_21 : (Cond.fieldLink "ExecutiveDesk$TransferState" 21 "ExecutiveDesk$TransferState" "device" "I") ∈ ed_tb := ed_in (i := 233) (by decide +kernel) rfl
theorem L_Tra_24 : (Cond.fieldLink "ExecutiveDesk$TransferState" 24 "ExecutiveDesk$TransferState" "length" "I") ∈ ed_tb := ed_in (i := 235) (by decide +kernel) rfl
theorem L_Tra_27 : (Cond.fieldLink "ExecutiveDesk$TransferState" 27 "ExecutiveDesk$TransferState" "target" "I") ∈ ed_tb := ed_in (i := 237) (by decide +kernel) rfl
theorem L_Tra_30 : (Cond.fieldLink "ExecutiveDesk$TransferState" 30 "ExecutiveDesk$TransferState" "toBeCancelled" "Z") ∈ ed_tb := ed_in (i := 239) (by decide +kernel) rfl
theorem L_Tra_34 : (Cond.fieldLink "ExecutiveDesk$TransferState" 34 "ExecutiveDesk$TransferState" "retried" "Z") ∈ ed_tb := ed_in (i := 241) (by decide +kernel) rfl
def y_Mod_init : MethodName := ⟨"ExecutiveDeskModel", "<init>", "()V"⟩
theorem mc_Mod_init : Cond.code y_Mod_init prog_10_method_1_code 2 none ∈ ed_tb := ed_in (i := 652) (by decide +kernel) rfl
def y_Mod_is : MethodName := ⟨"ExecutiveDeskModel", "is", "(III)Z"⟩
theorem mc_Mod_is : Cond.code y_Mod_is prog_10_method_2_code 3 (some .boolean) ∈ ed_tb := ed_in (i := 821) (by decide +kernel) rfl
theorem st_Mod_is : Cond.static y_Mod_is ∈ ed_tb := ed_in (i := 820) (by decide +kernel) rfl
def y_Mod_handles : MethodName := ⟨"ExecutiveDeskModel", "handles", "(I)I"⟩
theorem mc_Mod_handles : Cond.code y_Mod_handles prog_10_method_3_code 4 (some .int) ∈ ed_tb := ed_in (i := 841) (by decide +kernel) rfl
def y_Mod_pointers : MethodName := ⟨"ExecutiveDeskModel", "pointers", "(I)I"⟩
theorem mc_Mod_pointers : Cond.code y_Mod_pointers prog_10_method_4_code 5 (some .int) ∈ ed_tb := ed_in (i := 845) (by decide +kernel) rfl
def y_Mod_tidy : MethodName := ⟨"ExecutiveDeskModel", "tidy", "()V"⟩
theorem mc_Mod_tidy : Cond.code y_Mod_tidy prog_10_method_5_code 2 none ∈ ed_tb := ed_in (i := 837) (by decide +kernel) rfl
def y_Mod_isHandle : MethodName := ⟨"ExecutiveDeskModel", "isHandle", "(I)Z"⟩
theorem mc_Mod_isHandle : Cond.code y_Mod_isHandle prog_10_method_6_code 2 (some .boolean) ∈ ed_tb := ed_in (i := 865) (by decide +kernel) rfl
def y_Mod_objectOf : MethodName := ⟨"ExecutiveDeskModel", "objectOf", "(I)I"⟩
theorem mc_Mod_objectOf : Cond.code y_Mod_objectOf prog_10_method_7_code 2 (some .int) ∈ ed_tb := ed_in (i := 869) (by decide +kernel) rfl
def y_Mod_lacks : MethodName := ⟨"ExecutiveDeskModel", "lacks", "(II)Z"⟩
theorem mc_Mod_lacks : Cond.code y_Mod_lacks prog_10_method_8_code 3 (some .boolean) ∈ ed_tb := ed_in (i := 873) (by decide +kernel) rfl
def y_Mod_freeHandle : MethodName := ⟨"ExecutiveDeskModel", "freeHandle", "()I"⟩
theorem mc_Mod_freeHandle : Cond.code y_Mod_freeHandle prog_10_method_9_code 2 (some .int) ∈ ed_tb := ed_in (i := 901) (by decide +kernel) rfl
def y_Mod_named : MethodName := ⟨"ExecutiveDeskModel", "named", "(I)I"⟩
theorem mc_Mod_named : Cond.code y_Mod_named prog_10_method_10_code 3 (some .int) ∈ ed_tb := ed_in (i := 897) (by decide +kernel) rfl
def y_Mod_process : MethodName := ⟨"ExecutiveDeskModel", "process", "(I)I"⟩
theorem mc_Mod_process : Cond.code y_Mod_process prog_10_method_11_code 2 (some .int) ∈ ed_tb := ed_in (i := 818) (by decide +kernel) rfl
def y_Mod_thread : MethodName := ⟨"ExecutiveDeskModel", "thread", "(II)I"⟩
theorem mc_Mod_thread : Cond.code y_Mod_thread prog_10_method_12_code 4 (some .int) ∈ ed_tb := ed_in (i := 825) (by decide +kernel) rfl
def y_Mod_ready : MethodName := ⟨"ExecutiveDeskModel", "ready", "(I)V"⟩
theorem mc_Mod_ready : Cond.code y_Mod_ready prog_10_method_13_code 2 none ∈ ed_tb := ed_in (i := 829) (by decide +kernel) rfl
def y_Mod_next : MethodName := ⟨"ExecutiveDeskModel", "next", "()I"⟩
theorem mc_Mod_next : Cond.code y_Mod_next prog_10_method_14_code 3 (some .int) ∈ ed_tb := ed_in (i := 853) (by decide +kernel) rfl
def y_Mod_run : MethodName := ⟨"ExecutiveDeskModel", "run", "(I)V"⟩
theorem mc_Mod_run : Cond.code y_Mod_run prog_10_method_15_code 2 none ∈ ed_tb := ed_in (i := 857) (by decide +kernel) rfl
def y_Mod_look : MethodName := ⟨"ExecutiveDeskModel", "look", "()V"⟩
theorem mc_Mod_look : Cond.code y_Mod_look prog_10_method_16_code 2 none ∈ ed_tb := ed_in (i := 849) (by decide +kernel) rfl
def y_Mod_end : MethodName := ⟨"ExecutiveDeskModel", "end", "(I)I"⟩
theorem mc_Mod_end : Cond.code y_Mod_end prog_10_method_17_code 2 (some .int) ∈ ed_tb := ed_in (i := 833) (by decide +kernel) rfl
def y_Mod_isSignaled : MethodName := ⟨"ExecutiveDeskModel", "isSignaled", "(II)Z"⟩
theorem mc_Mod_isSignaled : Cond.code y_Mod_isSignaled prog_10_method_18_code 3 (some .boolean) ∈ ed_tb := ed_in (i := 885) (by decide +kernel) rfl
def y_Mod_take : MethodName := ⟨"ExecutiveDeskModel", "take", "(II)I"⟩
theorem mc_Mod_take : Cond.code y_Mod_take prog_10_method_19_code 4 (some .int) ∈ ed_tb := ed_in (i := 889) (by decide +kernel) rfl
def y_Mod_satisfy : MethodName := ⟨"ExecutiveDeskModel", "satisfy", "(I)I"⟩
theorem mc_Mod_satisfy : Cond.code y_Mod_satisfy prog_10_method_20_code 7 (some .int) ∈ ed_tb := ed_in (i := 881) (by decide +kernel) rfl
def y_Mod_go : MethodName := ⟨"ExecutiveDeskModel", "go", "(II)V"⟩
theorem mc_Mod_go : Cond.code y_Mod_go prog_10_method_21_code 3 none ∈ ed_tb := ed_in (i := 933) (by decide +kernel) rfl
def y_Mod_release : MethodName := ⟨"ExecutiveDeskModel", "release", "()V"⟩
theorem mc_Mod_release : Cond.code y_Mod_release prog_10_method_22_code 4 none ∈ ed_tb := ed_in (i := 925) (by decide +kernel) rfl
def y_Mod_waiter : MethodName := ⟨"ExecutiveDeskModel", "waiter", "(I)I"⟩
theorem mc_Mod_waiter : Cond.code y_Mod_waiter prog_10_method_23_code 4 (some .int) ∈ ed_tb := ed_in (i := 929) (by decide +kernel) rfl
def y_Mod_signal : MethodName := ⟨"ExecutiveDeskModel", "signal", "(I)V"⟩
theorem mc_Mod_signal : Cond.code y_Mod_signal prog_10_method_24_code 2 none ∈ ed_tb := ed_in (i := 961) (by decide +kernel) rfl
def y_Mod_deliver : MethodName := ⟨"ExecutiveDeskModel", "deliver", "(I)V"⟩
theorem mc_Mod_deliver : Cond.code y_Mod_deliver prog_10_method_25_code 2 none ∈ ed_tb := ed_in (i := 877) (by decide +kernel) rfl
def y_Mod_alert : MethodName := ⟨"ExecutiveDeskModel", "alert", "(I)V"⟩
theorem mc_Mod_alert : Cond.code y_Mod_alert prog_10_method_26_code 2 none ∈ ed_tb := ed_in (i := 941) (by decide +kernel) rfl
def y_Mod_await : MethodName := ⟨"ExecutiveDeskModel", "await", "(IIIII)I"⟩
theorem mc_Mod_await : Cond.code y_Mod_await prog_10_method_27_code 13 (some .int) ∈ ed_tb := ed_in (i := 861) (by decide +kernel) rfl
def y_Mod_create : MethodName := ⟨"ExecutiveDeskModel", "create", "(III)I"⟩
theorem mc_Mod_create : Cond.code y_Mod_create prog_10_method_28_code 7 (some .int) ∈ ed_tb := ed_in (i := 893) (by decide +kernel) rfl
def y_Mod_use : MethodName := ⟨"ExecutiveDeskModel", "use", "(III)I"⟩
theorem mc_Mod_use : Cond.code y_Mod_use prog_10_method_29_code 4 (some .int) ∈ ed_tb := ed_in (i := 905) (by decide +kernel) rfl
def y_Mod_opn : MethodName := ⟨"ExecutiveDeskModel", "open", "(II)I"⟩
theorem mc_Mod_opn : Cond.code y_Mod_opn prog_10_method_30_code 7 (some .int) ∈ ed_tb := ed_in (i := 909) (by decide +kernel) rfl
def y_Mod_clse : MethodName := ⟨"ExecutiveDeskModel", "close", "(I)I"⟩
theorem mc_Mod_clse : Cond.code y_Mod_clse prog_10_method_31_code 4 (some .int) ∈ ed_tb := ed_in (i := 913) (by decide +kernel) rfl
def y_Mod_rule : MethodName := ⟨"ExecutiveDeskModel", "rule", "(IIII)I"⟩
theorem mc_Mod_rule : Cond.code y_Mod_rule prog_10_method_32_code 7 (some .int) ∈ ed_tb := ed_in (i := 917) (by decide +kernel) rfl
def y_Mod_sett : MethodName := ⟨"ExecutiveDeskModel", "set", "(II)I"⟩
theorem mc_Mod_sett : Cond.code y_Mod_sett prog_10_method_33_code 7 (some .int) ∈ ed_tb := ed_in (i := 921) (by decide +kernel) rfl
def y_Mod_call : MethodName := ⟨"ExecutiveDeskModel", "call", "(II)I"⟩
theorem mc_Mod_call : Cond.code y_Mod_call prog_10_method_34_code 3 (some .int) ∈ ed_tb := ed_in (i := 937) (by decide +kernel) rfl
def y_Mod_level : MethodName := ⟨"ExecutiveDeskModel", "level", "(I)I"⟩
theorem mc_Mod_level : Cond.code y_Mod_level prog_10_method_35_code 6 (some .int) ∈ ed_tb := ed_in (i := 945) (by decide +kernel) rfl
def y_Mod_firstOf : MethodName := ⟨"ExecutiveDeskModel", "firstOf", "(I)I"⟩
theorem mc_Mod_firstOf : Cond.code y_Mod_firstOf prog_10_method_36_code 4 (some .int) ∈ ed_tb := ed_in (i := 953) (by decide +kernel) rfl
def y_Mod_over : MethodName := ⟨"ExecutiveDeskModel", "over", "(III)V"⟩
theorem mc_Mod_over : Cond.code y_Mod_over prog_10_method_37_code 4 none ∈ ed_tb := ed_in (i := 957) (by decide +kernel) rfl
def y_Mod_finish : MethodName := ⟨"ExecutiveDeskModel", "finish", "(IZ)V"⟩
theorem mc_Mod_finish : Cond.code y_Mod_finish prog_10_method_38_code 4 none ∈ ed_tb := ed_in (i := 949) (by decide +kernel) rfl
def y_Mod_interrupt : MethodName := ⟨"ExecutiveDeskModel", "interrupt", "(IZ)I"⟩
theorem mc_Mod_interrupt : Cond.code y_Mod_interrupt prog_10_method_39_code 3 (some .int) ∈ ed_tb := ed_in (i := 965) (by decide +kernel) rfl
def y_Mod_transfer : MethodName := ⟨"ExecutiveDeskModel", "transfer", "(IIII)I"⟩
theorem mc_Mod_transfer : Cond.code y_Mod_transfer prog_10_method_40_code 9 (some .int) ∈ ed_tb := ed_in (i := 969) (by decide +kernel) rfl
def y_Mod_drop : MethodName := ⟨"ExecutiveDeskModel", "drop", "(I)I"⟩
theorem mc_Mod_drop : Cond.code y_Mod_drop prog_10_method_41_code 2 (some .int) ∈ ed_tb := ed_in (i := 977) (by decide +kernel) rfl
def y_Mod_cancel : MethodName := ⟨"ExecutiveDeskModel", "cancel", "(I)I"⟩
theorem mc_Mod_cancel : Cond.code y_Mod_cancel prog_10_method_42_code 3 (some .int) ∈ ed_tb := ed_in (i := 973) (by decide +kernel) rfl
def y_Mod_exit : MethodName := ⟨"ExecutiveDeskModel", "exit", "()I"⟩
theorem mc_Mod_exit : Cond.code y_Mod_exit prog_10_method_43_code 4 (some .int) ∈ ed_tb := ed_in (i := 981) (by decide +kernel) rfl
def y_Mod_tick : MethodName := ⟨"ExecutiveDeskModel", "tick", "(I)I"⟩
theorem mc_Mod_tick : Cond.code y_Mod_tick prog_10_method_44_code 3 (some .int) ∈ ed_tb := ed_in (i := 985) (by decide +kernel) rfl
def y_Mod_once : MethodName := ⟨"ExecutiveDeskModel", "once", "()V"⟩
theorem mc_Mod_once : Cond.code y_Mod_once prog_10_method_45_code 3 none ∈ ed_tb := ed_in (i := 989) (by decide +kernel) rfl
def y_Mod_actor : MethodName := ⟨"ExecutiveDeskModel", "actor", "(II)I"⟩
theorem mc_Mod_actor : Cond.code y_Mod_actor prog_10_method_46_code 3 (some .int) ∈ ed_tb := ed_in (i := 993) (by decide +kernel) rfl
def y_Mod_rowOf : MethodName := ⟨"ExecutiveDeskModel", "rowOf", "(I)I"⟩
theorem mc_Mod_rowOf : Cond.code y_Mod_rowOf prog_10_method_47_code 4 (some .int) ∈ ed_tb := ed_in (i := 1001) (by decide +kernel) rfl
def y_Mod_object : MethodName := ⟨"ExecutiveDeskModel", "object", "(II)I"⟩
theorem mc_Mod_object : Cond.code y_Mod_object prog_10_method_48_code 4 (some .int) ∈ ed_tb := ed_in (i := 997) (by decide +kernel) rfl
def y_Mod_io : MethodName := ⟨"ExecutiveDeskModel", "io", "(II)I"⟩
theorem mc_Mod_io : Cond.code y_Mod_io prog_10_method_49_code 3 (some .int) ∈ ed_tb := ed_in (i := 1005) (by decide +kernel) rfl
def y_Mod_handle : MethodName := ⟨"ExecutiveDeskModel", "handle", "(III)I"⟩
theorem mc_Mod_handle : Cond.code y_Mod_handle prog_10_method_50_code 4 (some .int) ∈ ed_tb := ed_in (i := 1009) (by decide +kernel) rfl
def y_Mod_count : MethodName := ⟨"ExecutiveDeskModel", "count", "(I)I"⟩
theorem mc_Mod_count : Cond.code y_Mod_count prog_10_method_51_code 4 (some .int) ∈ ed_tb := ed_in (i := 1013) (by decide +kernel) rfl
theorem L_Mod_1 : (Cond.methodLink "ExecutiveDeskModel" 1 ⟨"java/lang/Object", "<init>", "()V"⟩) ∈ ed_tb := ed_in (i := 653) (by decide +kernel) rfl
theorem L_Mod_7 : (Cond.fieldLink "ExecutiveDeskModel" 7 "ExecutiveDeskModel" "groups" "[I") ∈ ed_tb := ed_in (i := 654) (by decide +kernel) rfl
theorem L_Mod_13 : (Cond.fieldLink "ExecutiveDeskModel" 13 "ExecutiveDeskModel" "alive" "[I") ∈ ed_tb := ed_in (i := 655) (by decide +kernel) rfl
theorem L_Mod_16 : (Cond.fieldLink "ExecutiveDeskModel" 16 "ExecutiveDeskModel" "had" "[I") ∈ ed_tb := ed_in (i := 656) (by decide +kernel) rfl
theorem L_Mod_19 : (Cond.fieldLink "ExecutiveDeskModel" 19 "ExecutiveDeskModel" "handleObject" "[I") ∈ ed_tb := ed_in (i := 657) (by decide +kernel) rfl
theorem L_Mod_22 : (Cond.fieldLink "ExecutiveDeskModel" 22 "ExecutiveDeskModel" "handleRights" "[I") ∈ ed_tb := ed_in (i := 658) (by decide +kernel) rfl
theorem L_Mod_25 : (Cond.fieldLink "ExecutiveDeskModel" 25 "ExecutiveDeskModel" "home" "[I") ∈ ed_tb := ed_in (i := 659) (by decide +kernel) rfl
theorem L_Mod_28 : (Cond.fieldLink "ExecutiveDeskModel" 28 "ExecutiveDeskModel" "priority" "[I") ∈ ed_tb := ed_in (i := 660) (by decide +kernel) rfl
theorem L_Mod_31 : (Cond.fieldLink "ExecutiveDeskModel" 31 "ExecutiveDeskModel" "state" "[I") ∈ ed_tb := ed_in (i := 661) (by decide +kernel) rfl
theorem L_Mod_34 : (Cond.fieldLink "ExecutiveDeskModel" 34 "ExecutiveDeskModel" "result" "[I") ∈ ed_tb := ed_in (i := 662) (by decide +kernel) rfl
theorem L_Mod_37 : (Cond.fieldLink "ExecutiveDeskModel" 37 "ExecutiveDeskModel" "calls" "[I") ∈ ed_tb := ed_in (i := 663) (by decide +kernel) rfl
theorem L_Mod_40 : (Cond.fieldLink "ExecutiveDeskModel" 40 "ExecutiveDeskModel" "delivered" "[I") ∈ ed_tb := ed_in (i := 664) (by decide +kernel) rfl
theorem L_Mod_43 : (Cond.fieldLink "ExecutiveDeskModel" 43 "ExecutiveDeskModel" "latest" "[I") ∈ ed_tb := ed_in (i := 665) (by decide +kernel) rfl
theorem L_Mod_46 : (Cond.fieldLink "ExecutiveDeskModel" 46 "ExecutiveDeskModel" "used" "[I") ∈ ed_tb := ed_in (i := 666) (by decide +kernel) rfl
theorem L_Mod_49 : (Cond.fieldLink "ExecutiveDeskModel" 49 "ExecutiveDeskModel" "due" "[I") ∈ ed_tb := ed_in (i := 667) (by decide +kernel) rfl
theorem L_Mod_52 : (Cond.fieldLink "ExecutiveDeskModel" 52 "ExecutiveDeskModel" "how" "[I") ∈ ed_tb := ed_in (i := 668) (by decide +kernel) rfl
theorem L_Mod_55 : (Cond.fieldLink "ExecutiveDeskModel" 55 "ExecutiveDeskModel" "began" "[I") ∈ ed_tb := ed_in (i := 669) (by decide +kernel) rfl
theorem L_Mod_58 : (Cond.fieldLink "ExecutiveDeskModel" 58 "ExecutiveDeskModel" "stands" "[I") ∈ ed_tb := ed_in (i := 670) (by decide +kernel) rfl
theorem L_Mod_61 : (Cond.fieldLink "ExecutiveDeskModel" 61 "ExecutiveDeskModel" "place" "[I") ∈ ed_tb := ed_in (i := 671) (by decide +kernel) rfl
theorem L_Mod_64 : (Cond.fieldLink "ExecutiveDeskModel" 64 "ExecutiveDeskModel" "row" "[I") ∈ ed_tb := ed_in (i := 672) (by decide +kernel) rfl
theorem L_Mod_67 : (Cond.fieldLink "ExecutiveDeskModel" 67 "ExecutiveDeskModel" "there" "[Z") ∈ ed_tb := ed_in (i := 673) (by decide +kernel) rfl
theorem L_Mod_71 : (Cond.fieldLink "ExecutiveDeskModel" 71 "ExecutiveDeskModel" "isSet" "[Z") ∈ ed_tb := ed_in (i := 674) (by decide +kernel) rfl
theorem L_Mod_74 : (Cond.fieldLink "ExecutiveDeskModel" 74 "ExecutiveDeskModel" "abandoned" "[Z") ∈ ed_tb := ed_in (i := 675) (by decide +kernel) rfl
theorem L_Mod_77 : (Cond.fieldLink "ExecutiveDeskModel" 77 "ExecutiveDeskModel" "type" "[I") ∈ ed_tb := ed_in (i := 676) (by decide +kernel) rfl
theorem L_Mod_80 : (Cond.fieldLink "ExecutiveDeskModel" 80 "ExecutiveDeskModel" "name" "[I") ∈ ed_tb := ed_in (i := 677) (by decide +kernel) rfl
theorem L_Mod_83 : (Cond.fieldLink "ExecutiveDeskModel" 83 "ExecutiveDeskModel" "count" "[I") ∈ ed_tb := ed_in (i := 678) (by decide +kernel) rfl
theorem L_Mod_86 : (Cond.fieldLink "ExecutiveDeskModel" 86 "ExecutiveDeskModel" "owner" "[I") ∈ ed_tb := ed_in (i := 679) (by decide +kernel) rfl
theorem L_Mod_89 : (Cond.fieldLink "ExecutiveDeskModel" 89 "ExecutiveDeskModel" "time" "[I") ∈ ed_tb := ed_in (i := 680) (by decide +kernel) rfl
theorem L_Mod_92 : (Cond.fieldLink "ExecutiveDeskModel" 92 "ExecutiveDeskModel" "rules" "[I") ∈ ed_tb := ed_in (i := 681) (by decide +kernel) rfl
theorem L_Mod_95 : (Cond.fieldLink "ExecutiveDeskModel" 95 "ExecutiveDeskModel" "ruleKind" "[I") ∈ ed_tb := ed_in (i := 682) (by decide +kernel) rfl
theorem L_Mod_98 : (Cond.fieldLink "ExecutiveDeskModel" 98 "ExecutiveDeskModel" "ruleGroup" "[I") ∈ ed_tb := ed_in (i := 683) (by decide +kernel) rfl
theorem L_Mod_101 : (Cond.fieldLink "ExecutiveDeskModel" 101 "ExecutiveDeskModel" "ruleRights" "[I") ∈ ed_tb := ed_in (i := 684) (by decide +kernel) rfl
theorem L_Mod_104 : (Cond.fieldLink "ExecutiveDeskModel" 104 "ExecutiveDeskModel" "tState" "[I") ∈ ed_tb := ed_in (i := 685) (by decide +kernel) rfl
theorem L_Mod_107 : (Cond.fieldLink "ExecutiveDeskModel" 107 "ExecutiveDeskModel" "tAmount" "[I") ∈ ed_tb := ed_in (i := 686) (by decide +kernel) rfl
theorem L_Mod_110 : (Cond.fieldLink "ExecutiveDeskModel" 110 "ExecutiveDeskModel" "tThread" "[I") ∈ ed_tb := ed_in (i := 687) (by decide +kernel) rfl
theorem L_Mod_113 : (Cond.fieldLink "ExecutiveDeskModel" 113 "ExecutiveDeskModel" "tDevice" "[I") ∈ ed_tb := ed_in (i := 688) (by decide +kernel) rfl
theorem L_Mod_116 : (Cond.fieldLink "ExecutiveDeskModel" 116 "ExecutiveDeskModel" "tLength" "[I") ∈ ed_tb := ed_in (i := 689) (by decide +kernel) rfl
theorem L_Mod_119 : (Cond.fieldLink "ExecutiveDeskModel" 119 "ExecutiveDeskModel" "tSets" "[I") ∈ ed_tb := ed_in (i := 690) (by decide +kernel) rfl
theorem L_Mod_122 : (Cond.fieldLink "ExecutiveDeskModel" 122 "ExecutiveDeskModel" "tOrder" "[I") ∈ ed_tb := ed_in (i := 691) (by decide +kernel) rfl
theorem L_Mod_125 : (Cond.fieldLink "ExecutiveDeskModel" 125 "ExecutiveDeskModel" "tCancel" "[Z") ∈ ed_tb := ed_in (i := 692) (by decide +kernel) rfl
theorem L_Mod_128 : (Cond.fieldLink "ExecutiveDeskModel" 128 "ExecutiveDeskModel" "tAgain" "[Z") ∈ ed_tb := ed_in (i := 693) (by decide +kernel) rfl
theorem L_Mod_131 : (Cond.fieldLink "ExecutiveDeskModel" 131 "ExecutiveDeskModel" "waiting" "[I") ∈ ed_tb := ed_in (i := 694) (by decide +kernel) rfl
theorem L_Mod_134 : (Cond.fieldLink "ExecutiveDeskModel" 134 "ExecutiveDeskModel" "waitingWell" "[Z") ∈ ed_tb := ed_in (i := 695) (by decide +kernel) rfl
theorem L_Mod_161 : (Cond.fieldLink "ExecutiveDeskModel" 161 "ExecutiveDeskModel" "processes" "I") ∈ ed_tb := ed_in (i := 696) (by decide +kernel) rfl
theorem L_Mod_144 : (Cond.fieldLink "ExecutiveDeskModel" 144 "ExecutiveDeskModel" "threads" "I") ∈ ed_tb := ed_in (i := 697) (by decide +kernel) rfl
theorem L_Mod_137 : (Cond.fieldLink "ExecutiveDeskModel" 137 "ExecutiveDeskModel" "running" "I") ∈ ed_tb := ed_in (i := 698) (by decide +kernel) rfl
theorem L_Mod_141 : (Cond.fieldLink "ExecutiveDeskModel" 141 "ExecutiveDeskModel" "last" "I") ∈ ed_tb := ed_in (i := 699) (by decide +kernel) rfl
theorem L_Mod_230 : (Cond.fieldLink "ExecutiveDeskModel" 230 "ExecutiveDeskModel" "clock" "I") ∈ ed_tb := ed_in (i := 700) (by decide +kernel) rfl
theorem L_Mod_177 : (Cond.fieldLink "ExecutiveDeskModel" 177 "ExecutiveDeskModel" "level" "I") ∈ ed_tb := ed_in (i := 701) (by decide +kernel) rfl
theorem L_Mod_147 : (Cond.fieldLink "ExecutiveDeskModel" 147 "ExecutiveDeskModel" "interrupts" "I") ∈ ed_tb := ed_in (i := 702) (by decide +kernel) rfl
theorem L_Mod_174 : (Cond.fieldLink "ExecutiveDeskModel" 174 "ExecutiveDeskModel" "switches" "I") ∈ ed_tb := ed_in (i := 703) (by decide +kernel) rfl
theorem L_Mod_250 : (Cond.fieldLink "ExecutiveDeskModel" 250 "ExecutiveDeskModel" "overs" "I") ∈ ed_tb := ed_in (i := 704) (by decide +kernel) rfl
theorem L_Mod_171 : (Cond.fieldLink "ExecutiveDeskModel" 171 "ExecutiveDeskModel" "orders" "I") ∈ ed_tb := ed_in (i := 705) (by decide +kernel) rfl
theorem L_Mod_184 : (Cond.fieldLink "ExecutiveDeskModel" 184 "ExecutiveDeskModel" "front" "I") ∈ ed_tb := ed_in (i := 706) (by decide +kernel) rfl
theorem L_Mod_157 : (Cond.methodLink "ExecutiveDeskModel" 157 ⟨"ExecutiveDeskModel", "is", "(III)Z"⟩) ∈ ed_tb := ed_in (i := 819) (by decide +kernel) rfl
theorem L_Mod_164 : (Cond.methodLink "ExecutiveDeskModel" 164 ⟨"ExecutiveDeskModel", "ready", "(I)V"⟩) ∈ ed_tb := ed_in (i := 826) (by decide +kernel) rfl
theorem L_Mod_168 : (Cond.methodLink "ExecutiveDeskModel" 168 ⟨"ExecutiveDeskModel", "end", "(I)I"⟩) ∈ ed_tb := ed_in (i := 830) (by decide +kernel) rfl
theorem L_Mod_190 : (Cond.methodLink "ExecutiveDeskModel" 190 ⟨"ExecutiveDeskModel", "tidy", "()V"⟩) ∈ ed_tb := ed_in (i := 834) (by decide +kernel) rfl
theorem L_Mod_150 : (Cond.methodLink "ExecutiveDeskModel" 150 ⟨"ExecutiveDeskModel", "handles", "(I)I"⟩) ∈ ed_tb := ed_in (i := 838) (by decide +kernel) rfl
theorem L_Mod_154 : (Cond.methodLink "ExecutiveDeskModel" 154 ⟨"ExecutiveDeskModel", "pointers", "(I)I"⟩) ∈ ed_tb := ed_in (i := 842) (by decide +kernel) rfl
theorem L_Mod_193 : (Cond.methodLink "ExecutiveDeskModel" 193 ⟨"ExecutiveDeskModel", "look", "()V"⟩) ∈ ed_tb := ed_in (i := 846) (by decide +kernel) rfl
theorem L_Mod_180 : (Cond.methodLink "ExecutiveDeskModel" 180 ⟨"ExecutiveDeskModel", "next", "()I"⟩) ∈ ed_tb := ed_in (i := 850) (by decide +kernel) rfl
theorem L_Mod_187 : (Cond.methodLink "ExecutiveDeskModel" 187 ⟨"ExecutiveDeskModel", "run", "(I)V"⟩) ∈ ed_tb := ed_in (i := 854) (by decide +kernel) rfl
theorem L_Mod_220 : (Cond.methodLink "ExecutiveDeskModel" 220 ⟨"ExecutiveDeskModel", "isHandle", "(I)Z"⟩) ∈ ed_tb := ed_in (i := 862) (by decide +kernel) rfl
theorem L_Mod_224 : (Cond.methodLink "ExecutiveDeskModel" 224 ⟨"ExecutiveDeskModel", "objectOf", "(I)I"⟩) ∈ ed_tb := ed_in (i := 866) (by decide +kernel) rfl
theorem L_Mod_227 : (Cond.methodLink "ExecutiveDeskModel" 227 ⟨"ExecutiveDeskModel", "lacks", "(II)Z"⟩) ∈ ed_tb := ed_in (i := 870) (by decide +kernel) rfl
theorem L_Mod_217 : (Cond.methodLink "ExecutiveDeskModel" 217 ⟨"ExecutiveDeskModel", "deliver", "(I)V"⟩) ∈ ed_tb := ed_in (i := 874) (by decide +kernel) rfl
theorem L_Mod_207 : (Cond.methodLink "ExecutiveDeskModel" 207 ⟨"ExecutiveDeskModel", "satisfy", "(I)I"⟩) ∈ ed_tb := ed_in (i := 878) (by decide +kernel) rfl
theorem L_Mod_196 : (Cond.methodLink "ExecutiveDeskModel" 196 ⟨"ExecutiveDeskModel", "isSignaled", "(II)Z"⟩) ∈ ed_tb := ed_in (i := 882) (by decide +kernel) rfl
theorem L_Mod_200 : (Cond.methodLink "ExecutiveDeskModel" 200 ⟨"ExecutiveDeskModel", "take", "(II)I"⟩) ∈ ed_tb := ed_in (i := 886) (by decide +kernel) rfl
theorem L_Mod_233 : (Cond.methodLink "ExecutiveDeskModel" 233 ⟨"ExecutiveDeskModel", "named", "(I)I"⟩) ∈ ed_tb := ed_in (i := 894) (by decide +kernel) rfl
theorem L_Mod_236 : (Cond.methodLink "ExecutiveDeskModel" 236 ⟨"ExecutiveDeskModel", "freeHandle", "()I"⟩) ∈ ed_tb := ed_in (i := 898) (by decide +kernel) rfl
theorem L_Mod_239 : (Cond.methodLink "ExecutiveDeskModel" 239 ⟨"ExecutiveDeskModel", "use", "(III)I"⟩) ∈ ed_tb := ed_in (i := 902) (by decide +kernel) rfl
theorem L_Mod_214 : (Cond.methodLink "ExecutiveDeskModel" 214 ⟨"ExecutiveDeskModel", "release", "()V"⟩) ∈ ed_tb := ed_in (i := 922) (by decide +kernel) rfl
theorem L_Mod_204 : (Cond.methodLink "ExecutiveDeskModel" 204 ⟨"ExecutiveDeskModel", "waiter", "(I)I"⟩) ∈ ed_tb := ed_in (i := 926) (by decide +kernel) rfl
theorem L_Mod_210 : (Cond.methodLink "ExecutiveDeskModel" 210 ⟨"ExecutiveDeskModel", "go", "(II)V"⟩) ∈ ed_tb := ed_in (i := 930) (by decide +kernel) rfl
theorem L_Mod_243 : (Cond.methodLink "ExecutiveDeskModel" 243 ⟨"ExecutiveDeskModel", "alert", "(I)V"⟩) ∈ ed_tb := ed_in (i := 938) (by decide +kernel) rfl
theorem L_Mod_246 : (Cond.methodLink "ExecutiveDeskModel" 246 ⟨"ExecutiveDeskModel", "finish", "(IZ)V"⟩) ∈ ed_tb := ed_in (i := 946) (by decide +kernel) rfl
theorem L_Mod_256 : (Cond.methodLink "ExecutiveDeskModel" 256 ⟨"ExecutiveDeskModel", "firstOf", "(I)I"⟩) ∈ ed_tb := ed_in (i := 950) (by decide +kernel) rfl
theorem L_Mod_259 : (Cond.methodLink "ExecutiveDeskModel" 259 ⟨"ExecutiveDeskModel", "over", "(III)V"⟩) ∈ ed_tb := ed_in (i := 954) (by decide +kernel) rfl
theorem L_Mod_253 : (Cond.methodLink "ExecutiveDeskModel" 253 ⟨"ExecutiveDeskModel", "signal", "(I)V"⟩) ∈ ed_tb := ed_in (i := 958) (by decide +kernel) rfl
theorem L_Mod_263 : (Cond.methodLink "ExecutiveDeskModel" 263 ⟨"ExecutiveDeskModel", "drop", "(I)I"⟩) ∈ ed_tb := ed_in (i := 974) (by decide +kernel) rfl
theorem L_Mod_266 : (Cond.methodLink "ExecutiveDeskModel" 266 ⟨"ExecutiveDeskModel", "once", "()V"⟩) ∈ ed_tb := ed_in (i := 986) (by decide +kernel) rfl
theorem L_Mod_269 : (Cond.methodLink "ExecutiveDeskModel" 269 ⟨"ExecutiveDeskModel", "rowOf", "(I)I"⟩) ∈ ed_tb := ed_in (i := 998) (by decide +kernel) rfl
theorem ed_min_s : Cond.static Lib.Math.min.name ∈ ed_tb := ed_in (i := 568) (by decide +kernel) rfl
theorem ed_min_i : Cond.initialized "java/lang/Math" ∈ ed_tb := ed_in (i := 10) (by decide +kernel) rfl
theorem ed_min_c : Cond.code Lib.Math.min.name Lib.Math.min.code 2 (some .int) ∈ ed_tb := ed_in (i := 569) (by decide +kernel) rfl
