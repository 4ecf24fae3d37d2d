
abbrev ed_S : Type := Nat → Nat → Nat → Int32
def ed_st (σ : ed_S) (k i j : Nat) (v : Int32) : ed_S := fun a b d => if a = k ∧ b = i ∧ d = j then v else σ a b d
def ed_fu : Nat := 64
/-- an index into n places, looked at -/
def vG {α : Type} (i : Int32) (n : Nat) (f : Nat → Option α) : Option α := if ¬ (i < 0 ∨ n ≤ i.toNatClampNeg) then f i.toNatClampNeg else none
def vL {α β : Type} (a : α) (f : α → Option β) : Option β := f a
def vC {β : Type} (c : Prop) [Decidable c] (x : Option β) : Option β := if c then x else none
def vB1 {β : Type} (o : Option ed_S) (f : ed_S → Option β) : Option β := match o with
  | some σ => f σ
  | none => none
def vB2 {β : Type} (o : Option (Int32 × ed_S)) (f : Int32 → ed_S → Option β) : Option β := match o with
  | some (r, σ) => f r σ
  | none => none
def vBr {β : Type} (o : Option (Nat × ed_S)) (n : Nat) (f : Nat → ed_S → Option β) : Option β := match o with
  | some (r, σ) => if r < n then f r σ else none
  | none => none
theorem vG_some {α : Type} {i : Int32} {n : Nat} {f : Nat → Option α} {x : α} (h : vG i n f = some x) : ∃ j : Nat, i.toNatClampNeg = j ∧ j < n ∧ vp_in i n ∧ f j = some x := by
  unfold vG at h
  by_cases hc : ¬ (i < 0 ∨ n ≤ i.toNatClampNeg)
  · rw [if_pos hc] at h
    exact ⟨_, rfl, Nat.not_le.mp fun q => hc (Or.inr q), hc, h⟩
  · rw [if_neg hc] at h
    cases h
theorem vL_some {α β : Type} {a : α} {f : α → Option β} {x : β} (h : vL a f = some x) : ∃ b : α, b = a ∧ f b = some x := ⟨a, rfl, h⟩
theorem vC_some {β : Type} {c : Prop} [Decidable c] {o : Option β} {x : β} (h : vC c o = some x) : c ∧ o = some x := by
  unfold vC at h
  by_cases hc : c
  · rw [if_pos hc] at h
    exact ⟨hc, h⟩
  · rw [if_neg hc] at h
    cases h
theorem vB1_some {β : Type} {o : Option ed_S} {f : ed_S → Option β} {x : β} (h : vB1 o f = some x) : ∃ σ : ed_S, o = some σ ∧ f σ = some x := by
  cases o with
  | none => cases h
  | some σ => exact ⟨σ, rfl, h⟩
theorem vB2_some {β : Type} {o : Option (Int32 × ed_S)} {f : Int32 → ed_S → Option β} {x : β} (h : vB2 o f = some x) : ∃ (r : Int32) (σ : ed_S), o = some (r, σ) ∧ f r σ = some x := by
  cases o with
  | none => cases h
  | some q => exact ⟨q.1, q.2, rfl, h⟩
theorem vBr_some {β : Type} {o : Option (Nat × ed_S)} {n : Nat} {f : Nat → ed_S → Option β} {x : β} (h : vBr o n f = some x) : ∃ (r : Nat) (σ : ed_S), o = some (r, σ) ∧ r < n ∧ f r σ = some x := by
  cases o with
  | none => cases h
  | some q =>
    obtain ⟨r, σ⟩ := q
    have h : (if r < n then f r σ else none) = some x := h
    by_cases hc : r < n
    · rw [if_pos hc] at h
      exact ⟨r, σ, rfl, hc, h⟩
    · rw [if_neg hc] at h
      cases h
theorem vIt {α : Type} {c : Prop} [Decidable c] {a b x : α} (h : c) (q : (if c then a else b) = x) : a = x := by
  rw [if_pos h] at q
  exact q
theorem vIf {α : Type} {c : Prop} [Decidable c] {a b x : α} (h : ¬ c) (q : (if c then a else b) = x) : b = x := by
  rw [if_neg h] at q
  exact q
theorem vP {α β : Type} {a a' : α} {b b' : β} (h : some (a, b) = some (a', b')) : a = a' ∧ b = b' := by
  cases h
  exact ⟨rfl, rfl⟩
def ed_me (y : MethodName) (bytes : ByteArray) (maxL : Nat) (ret : Option FieldType) (n : Nat) : Prop := Cond.code y bytes maxL ret ∈ ed_tb ∧ Cond.initialized y.cls ∈ ed_tb ∧ (y.cls ≠ "java/lang/invoke/MethodHandle" ∧ y.cls ≠ "java/lang/invoke/VarHandle" ∧ (parseMethodDescriptor y.desc).map (fun d => d.parameters.length) = some n)
def ed_mv (y : MethodName) : Prop := Cond.instanceMethod y ∈ ed_tb ∧ Cond.selects y.cls y y ∈ ed_tb
theorem ed_good {q : Cond} (h : q ∈ ed_tb) : GoodIn ed_tb (q :: ed_tb) := by
  have g : ∀ z, z ∈ ed_tb → z ∈ ed_tb ∧ ((z.onTables && z.keeps) = true ∨ ∃ ty, z = .arrayClass ty) := fun z hz => ⟨hz, good_of_word (List.mem_filter.mp hz).2⟩
  intro z hz
  rcases List.mem_cons.mp hz with e | e
  · rw [e]; exact g q h
  · exact g z e
theorem me_Desk_init : ed_me y_Desk_init prog_1_method_1_code 2 none 0 := ⟨mc_Desk_init, ed_in (i := 1) (by decide +kernel) rfl, by decide +kernel, by decide +kernel, by decide +kernel⟩
theorem me_Desk_process : ed_me y_Desk_process prog_1_method_2_code 2 (some .int) 1 := ⟨mc_Desk_process, ed_in (i := 1) (by decide +kernel) rfl, by decide +kernel, by decide +kernel, by decide +kernel⟩
theorem mv_Desk_process : ed_mv y_Desk_process := ⟨ed_in (i := 298) (by decide +kernel) rfl, ed_in (i := 299) (by decide +kernel) rfl⟩
theorem me_Desk_thread : ed_me y_Desk_thread prog_1_method_3_code 4 (some .int) 2 := ⟨mc_Desk_thread, ed_in (i := 1) (by decide +kernel) rfl, by decide +kernel, by decide +kernel, by decide +kernel⟩
theorem mv_Desk_thread : ed_mv y_Desk_thread := ⟨ed_in (i := 305) (by decide +kernel) rfl, ed_in (i := 306) (by decide +kernel) rfl⟩
theorem me_Desk_create : ed_me y_Desk_create prog_1_method_4_code 7 (some .int) 3 := ⟨mc_Desk_create, ed_in (i := 1) (by decide +kernel) rfl, by decide +kernel, by decide +kernel, by decide +kernel⟩
theorem mv_Desk_create : ed_mv y_Desk_create := ⟨ed_in (i := 345) (by decide +kernel) rfl, ed_in (i := 346) (by decide +kernel) rfl⟩
theorem me_Desk_opn : ed_me y_Desk_opn prog_1_method_5_code 6 (some .int) 2 := ⟨mc_Desk_opn, ed_in (i := 1) (by decide +kernel) rfl, by decide +kernel, by decide +kernel, by decide +kernel⟩
theorem mv_Desk_opn : ed_mv y_Desk_opn := ⟨ed_in (i := 384) (by decide +kernel) rfl, ed_in (i := 385) (by decide +kernel) rfl⟩
theorem me_Desk_clse : ed_me y_Desk_clse prog_1_method_6_code 4 (some .int) 1 := ⟨mc_Desk_clse, ed_in (i := 1) (by decide +kernel) rfl, by decide +kernel, by decide +kernel, by decide +kernel⟩
theorem mv_Desk_clse : ed_mv y_Desk_clse := ⟨ed_in (i := 392) (by decide +kernel) rfl, ed_in (i := 393) (by decide +kernel) rfl⟩
theorem me_Desk_rule : ed_me y_Desk_rule prog_1_method_7_code 8 (some .int) 4 := ⟨mc_Desk_rule, ed_in (i := 1) (by decide +kernel) rfl, by decide +kernel, by decide +kernel, by decide +kernel⟩
theorem mv_Desk_rule : ed_mv y_Desk_rule := ⟨ed_in (i := 405) (by decide +kernel) rfl, ed_in (i := 406) (by decide +kernel) rfl⟩
theorem me_Desk_sett : ed_me y_Desk_sett prog_1_method_8_code 6 (some .int) 2 := ⟨mc_Desk_sett, ed_in (i := 1) (by decide +kernel) rfl, by decide +kernel, by decide +kernel, by decide +kernel⟩
theorem mv_Desk_sett : ed_mv y_Desk_sett := ⟨ed_in (i := 422) (by decide +kernel) rfl, ed_in (i := 423) (by decide +kernel) rfl⟩
theorem me_Desk_await : ed_me y_Desk_await prog_1_method_9_code 10 (some .int) 5 := ⟨mc_Desk_await, ed_in (i := 1) (by decide +kernel) rfl, by decide +kernel, by decide +kernel, by decide +kernel⟩
theorem mv_Desk_await : ed_mv y_Desk_await := ⟨ed_in (i := 489) (by decide +kernel) rfl, ed_in (i := 490) (by decide +kernel) rfl⟩
theorem me_Desk_call : ed_me y_Desk_call prog_1_method_10_code 4 (some .int) 2 := ⟨mc_Desk_call, ed_in (i := 1) (by decide +kernel) rfl, by decide +kernel, by decide +kernel, by decide +kernel⟩
theorem mv_Desk_call : ed_mv y_Desk_call := ⟨ed_in (i := 515) (by decide +kernel) rfl, ed_in (i := 516) (by decide +kernel) rfl⟩
theorem me_Desk_level : ed_me y_Desk_level prog_1_method_11_code 6 (some .int) 1 := ⟨mc_Desk_level, ed_in (i := 1) (by decide +kernel) rfl, by decide +kernel, by decide +kernel, by decide +kernel⟩
theorem mv_Desk_level : ed_mv y_Desk_level := ⟨ed_in (i := 523) (by decide +kernel) rfl, ed_in (i := 524) (by decide +kernel) rfl⟩
theorem me_Desk_interrupt : ed_me y_Desk_interrupt prog_1_method_12_code 3 (some .int) 2 := ⟨mc_Desk_interrupt, ed_in (i := 1) (by decide +kernel) rfl, by decide +kernel, by decide +kernel, by decide +kernel⟩
theorem mv_Desk_interrupt : ed_mv y_Desk_interrupt := ⟨ed_in (i := 544) (by decide +kernel) rfl, ed_in (i := 545) (by decide +kernel) rfl⟩
theorem me_Desk_transfer : ed_me y_Desk_transfer prog_1_method_13_code 9 (some .int) 4 := ⟨mc_Desk_transfer, ed_in (i := 1) (by decide +kernel) rfl, by decide +kernel, by decide +kernel, by decide +kernel⟩
theorem mv_Desk_transfer : ed_mv y_Desk_transfer := ⟨ed_in (i := 552) (by decide +kernel) rfl, ed_in (i := 553) (by decide +kernel) rfl⟩
theorem me_Desk_cancel : ed_me y_Desk_cancel prog_1_method_14_code 3 (some .int) 1 := ⟨mc_Desk_cancel, ed_in (i := 1) (by decide +kernel) rfl, by decide +kernel, by decide +kernel, by decide +kernel⟩
theorem mv_Desk_cancel : ed_mv y_Desk_cancel := ⟨ed_in (i := 571) (by decide +kernel) rfl, ed_in (i := 572) (by decide +kernel) rfl⟩
theorem me_Desk_exit : ed_me y_Desk_exit prog_1_method_15_code 3 (some .int) 0 := ⟨mc_Desk_exit, ed_in (i := 1) (by decide +kernel) rfl, by decide +kernel, by decide +kernel, by decide +kernel⟩
theorem mv_Desk_exit : ed_mv y_Desk_exit := ⟨ed_in (i := 587) (by decide +kernel) rfl, ed_in (i := 588) (by decide +kernel) rfl⟩
theorem me_Desk_tick : ed_me y_Desk_tick prog_1_method_16_code 3 (some .int) 1 := ⟨mc_Desk_tick, ed_in (i := 1) (by decide +kernel) rfl, by decide +kernel, by decide +kernel, by decide +kernel⟩
theorem mv_Desk_tick : ed_mv y_Desk_tick := ⟨ed_in (i := 599) (by decide +kernel) rfl, ed_in (i := 600) (by decide +kernel) rfl⟩
theorem me_Desk_actor : ed_me y_Desk_actor prog_1_method_17_code 4 (some .int) 2 := ⟨mc_Desk_actor, ed_in (i := 1) (by decide +kernel) rfl, by decide +kernel, by decide +kernel, by decide +kernel⟩
theorem mv_Desk_actor : ed_mv y_Desk_actor := ⟨ed_in (i := 620) (by decide +kernel) rfl, ed_in (i := 621) (by decide +kernel) rfl⟩
theorem me_Desk_object : ed_me y_Desk_object prog_1_method_18_code 4 (some .int) 2 := ⟨mc_Desk_object, ed_in (i := 1) (by decide +kernel) rfl, by decide +kernel, by decide +kernel, by decide +kernel⟩
theorem mv_Desk_object : ed_mv y_Desk_object := ⟨ed_in (i := 624) (by decide +kernel) rfl, ed_in (i := 625) (by decide +kernel) rfl⟩
theorem me_Desk_io : ed_me y_Desk_io prog_1_method_19_code 4 (some .int) 2 := ⟨mc_Desk_io, ed_in (i := 1) (by decide +kernel) rfl, by decide +kernel, by decide +kernel, by decide +kernel⟩
theorem mv_Desk_io : ed_mv y_Desk_io := ⟨ed_in (i := 632) (by decide +kernel) rfl, ed_in (i := 633) (by decide +kernel) rfl⟩
theorem me_Desk_handle : ed_me y_Desk_handle prog_1_method_20_code 4 (some .int) 3 := ⟨mc_Desk_handle, ed_in (i := 1) (by decide +kernel) rfl, by decide +kernel, by decide +kernel, by decide +kernel⟩
theorem mv_Desk_handle : ed_mv y_Desk_handle := ⟨ed_in (i := 636) (by decide +kernel) rfl, ed_in (i := 637) (by decide +kernel) rfl⟩
theorem me_Desk_count : ed_me y_Desk_count prog_1_method_21_code 2 (some .int) 1 := ⟨mc_Desk_count, ed_in (i := 1) (by decide +kernel) rfl, by decide +kernel, by decide +kernel, by decide +kernel⟩
theorem mv_Desk_count : ed_mv y_Desk_count := ⟨ed_in (i := 641) (by decide +kernel) rfl, ed_in (i := 642) (by decide +kernel) rfl⟩
theorem me_Desk_isWithin : ed_me y_Desk_isWithin prog_1_method_22_code 3 (some .boolean) 3 := ⟨mc_Desk_isWithin, ed_in (i := 1) (by decide +kernel) rfl, by decide +kernel, by decide +kernel, by decide +kernel⟩
theorem me_Desk_mostAtFirst : ed_me y_Desk_mostAtFirst prog_1_method_23_code 1 (some .int) 1 := ⟨mc_Desk_mostAtFirst, ed_in (i := 1) (by decide +kernel) rfl, by decide +kernel, by decide +kernel, by decide +kernel⟩
theorem me_Desk_canBeSetTo : ed_me y_Desk_canBeSetTo prog_1_method_24_code 2 (some .boolean) 2 := ⟨mc_Desk_canBeSetTo, ed_in (i := 1) (by decide +kernel) rfl, by decide +kernel, by decide +kernel, by decide +kernel⟩
theorem me_Desk_lookWhoRuns : ed_me y_Desk_lookWhoRuns prog_1_method_25_code 1 none 0 := ⟨mc_Desk_lookWhoRuns, ed_in (i := 1) (by decide +kernel) rfl, by decide +kernel, by decide +kernel, by decide +kernel⟩
theorem mv_Desk_lookWhoRuns : ed_mv y_Desk_lookWhoRuns := ⟨ed_in (i := 322) (by decide +kernel) rfl, ed_iq (i := 0) (by decide +kernel) rfl⟩
theorem me_Desk_processOfRunning : ed_me y_Desk_processOfRunning prog_1_method_26_code 1 (some (.object "ExecutiveDesk$ProcessState")) 0 := ⟨mc_Desk_processOfRunning, ed_in (i := 1) (by decide +kernel) rfl, by decide +kernel, by decide +kernel, by decide +kernel⟩
theorem mv_Desk_processOfRunning : ed_mv y_Desk_processOfRunning := ⟨ed_in (i := 361) (by decide +kernel) rfl, ed_iq (i := 4) (by decide +kernel) rfl⟩
theorem me_Desk_isThere : ed_me y_Desk_isThere prog_1_method_27_code 2 (some .boolean) 1 := ⟨mc_Desk_isThere, ed_in (i := 1) (by decide +kernel) rfl, by decide +kernel, by decide +kernel, by decide +kernel⟩
theorem mv_Desk_isThere : ed_mv y_Desk_isThere := ⟨ed_in (i := 549) (by decide +kernel) rfl, ed_iq (i := 26) (by decide +kernel) rfl⟩
theorem me_Desk_isOfType : ed_me y_Desk_isOfType prog_1_method_28_code 4 (some .boolean) 3 := ⟨mc_Desk_isOfType, ed_in (i := 1) (by decide +kernel) rfl, by decide +kernel, by decide +kernel, by decide +kernel⟩
theorem mv_Desk_isOfType : ed_mv y_Desk_isOfType := ⟨ed_in (i := 498) (by decide +kernel) rfl, ed_iq (i := 20) (by decide +kernel) rfl⟩
theorem me_Desk_isPending : ed_me y_Desk_isPending prog_1_method_29_code 2 (some .boolean) 1 := ⟨mc_Desk_isPending, ed_in (i := 1) (by decide +kernel) rfl, by decide +kernel, by decide +kernel, by decide +kernel⟩
theorem mv_Desk_isPending : ed_mv y_Desk_isPending := ⟨ed_in (i := 576) (by decide +kernel) rfl, ed_iq (i := 29) (by decide +kernel) rfl⟩
theorem me_Desk_objectNamed : ed_me y_Desk_objectNamed prog_1_method_30_code 3 (some .int) 1 := ⟨mc_Desk_objectNamed, ed_in (i := 1) (by decide +kernel) rfl, by decide +kernel, by decide +kernel, by decide +kernel⟩
theorem mv_Desk_objectNamed : ed_mv y_Desk_objectNamed := ⟨ed_in (i := 353) (by decide +kernel) rfl, ed_iq (i := 3) (by decide +kernel) rfl⟩
theorem me_Desk_freeObject : ed_me y_Desk_freeObject prog_1_method_31_code 2 (some .int) 0 := ⟨mc_Desk_freeObject, ed_in (i := 1) (by decide +kernel) rfl, by decide +kernel, by decide +kernel, by decide +kernel⟩
theorem mv_Desk_freeObject : ed_mv y_Desk_freeObject := ⟨ed_in (i := 369) (by decide +kernel) rfl, ed_iq (i := 5) (by decide +kernel) rfl⟩
theorem me_Desk_freeTransfer : ed_me y_Desk_freeTransfer prog_1_method_32_code 2 (some .int) 0 := ⟨mc_Desk_freeTransfer, ed_in (i := 1) (by decide +kernel) rfl, by decide +kernel, by decide +kernel, by decide +kernel⟩
theorem mv_Desk_freeTransfer : ed_mv y_Desk_freeTransfer := ⟨ed_in (i := 557) (by decide +kernel) rfl, ed_iq (i := 27) (by decide +kernel) rfl⟩
theorem me_Desk_objectsThere : ed_me y_Desk_objectsThere prog_1_method_33_code 3 (some .int) 0 := ⟨mc_Desk_objectsThere, ed_in (i := 1) (by decide +kernel) rfl, by decide +kernel, by decide +kernel, by decide +kernel⟩
theorem mv_Desk_objectsThere : ed_mv y_Desk_objectsThere := ⟨ed_in (i := 646) (by decide +kernel) rfl, ed_iq (i := 37) (by decide +kernel) rfl⟩
theorem me_Desk_detailOf : ed_me y_Desk_detailOf prog_1_method_34_code 2 (some .int) 1 := ⟨mc_Desk_detailOf, ed_in (i := 1) (by decide +kernel) rfl, by decide +kernel, by decide +kernel, by decide +kernel⟩
theorem mv_Desk_detailOf : ed_mv y_Desk_detailOf := ⟨ed_in (i := 629) (by decide +kernel) rfl, ed_iq (i := 36) (by decide +kernel) rfl⟩
theorem me_Desk_giveHandle : ed_me y_Desk_giveHandle prog_1_method_35_code 5 none 4 := ⟨mc_Desk_giveHandle, ed_in (i := 1) (by decide +kernel) rfl, by decide +kernel, by decide +kernel, by decide +kernel⟩
theorem mv_Desk_giveHandle : ed_mv y_Desk_giveHandle := ⟨ed_in (i := 381) (by decide +kernel) rfl, ed_iq (i := 6) (by decide +kernel) rfl⟩
theorem me_Desk_dropHandle : ed_me y_Desk_dropHandle prog_1_method_36_code 3 none 2 := ⟨mc_Desk_dropHandle, ed_in (i := 1) (by decide +kernel) rfl, by decide +kernel, by decide +kernel, by decide +kernel⟩
theorem mv_Desk_dropHandle : ed_mv y_Desk_dropHandle := ⟨ed_in (i := 402) (by decide +kernel) rfl, ed_iq (i := 7) (by decide +kernel) rfl⟩
theorem me_Desk_dropAllHandles : ed_me y_Desk_dropAllHandles prog_1_method_37_code 3 none 1 := ⟨mc_Desk_dropAllHandles, ed_in (i := 1) (by decide +kernel) rfl, by decide +kernel, by decide +kernel, by decide +kernel⟩
theorem mv_Desk_dropAllHandles : ed_mv y_Desk_dropAllHandles := ⟨ed_in (i := 596) (by decide +kernel) rfl, ed_iq (i := 32) (by decide +kernel) rfl⟩
theorem me_Desk_change : ed_me y_Desk_change prog_1_method_38_code 3 (some .int) 2 := ⟨mc_Desk_change, ed_in (i := 1) (by decide +kernel) rfl, by decide +kernel, by decide +kernel, by decide +kernel⟩
theorem mv_Desk_change : ed_mv y_Desk_change := ⟨ed_in (i := 430) (by decide +kernel) rfl, ed_iq (i := 8) (by decide +kernel) rfl⟩
theorem me_Desk_turnTo : ed_me y_Desk_turnTo prog_1_method_39_code 4 (some .int) 2 := ⟨mc_Desk_turnTo, ed_in (i := 1) (by decide +kernel) rfl, by decide +kernel, by decide +kernel, by decide +kernel⟩
theorem mv_Desk_turnTo : ed_mv y_Desk_turnTo := ⟨ed_in (i := 486) (by decide +kernel) rfl, ed_iq (i := 18) (by decide +kernel) rfl⟩
theorem me_Desk_raiseCount : ed_me y_Desk_raiseCount prog_1_method_40_code 4 (some .int) 2 := ⟨mc_Desk_raiseCount, ed_in (i := 1) (by decide +kernel) rfl, by decide +kernel, by decide +kernel, by decide +kernel⟩
theorem mv_Desk_raiseCount : ed_mv y_Desk_raiseCount := ⟨ed_in (i := 434) (by decide +kernel) rfl, ed_iq (i := 9) (by decide +kernel) rfl⟩
theorem me_Desk_giveBack : ed_me y_Desk_giveBack prog_1_method_41_code 3 (some .int) 1 := ⟨mc_Desk_giveBack, ed_in (i := 1) (by decide +kernel) rfl, by decide +kernel, by decide +kernel, by decide +kernel⟩
theorem mv_Desk_giveBack : ed_mv y_Desk_giveBack := ⟨ed_in (i := 478) (by decide +kernel) rfl, ed_iq (i := 16) (by decide +kernel) rfl⟩
theorem me_Desk_startTimer : ed_me y_Desk_startTimer prog_1_method_42_code 4 (some .int) 2 := ⟨mc_Desk_startTimer, ed_in (i := 1) (by decide +kernel) rfl, by decide +kernel, by decide +kernel, by decide +kernel⟩
theorem mv_Desk_startTimer : ed_mv y_Desk_startTimer := ⟨ed_in (i := 482) (by decide +kernel) rfl, ed_iq (i := 17) (by decide +kernel) rfl⟩
theorem me_Desk_canBeAwaited : ed_me y_Desk_canBeAwaited prog_1_method_43_code 8 (some .boolean) 4 := ⟨mc_Desk_canBeAwaited, ed_in (i := 1) (by decide +kernel) rfl, by decide +kernel, by decide +kernel, by decide +kernel⟩
theorem mv_Desk_canBeAwaited : ed_mv y_Desk_canBeAwaited := ⟨ed_in (i := 494) (by decide +kernel) rfl, ed_iq (i := 19) (by decide +kernel) rfl⟩
theorem me_Desk_satisfy : ed_me y_Desk_satisfy prog_1_method_44_code 2 (some .int) 1 := ⟨mc_Desk_satisfy, ed_in (i := 1) (by decide +kernel) rfl, by decide +kernel, by decide +kernel, by decide +kernel⟩
theorem mv_Desk_satisfy : ed_mv y_Desk_satisfy := ⟨ed_in (i := 446) (by decide +kernel) rfl, ed_iq (i := 11) (by decide +kernel) rfl⟩
theorem me_Desk_satisfyAny : ed_me y_Desk_satisfyAny prog_1_method_45_code 4 (some .int) 1 := ⟨mc_Desk_satisfyAny, ed_in (i := 1) (by decide +kernel) rfl, by decide +kernel, by decide +kernel, by decide +kernel⟩
theorem mv_Desk_satisfyAny : ed_mv y_Desk_satisfyAny := ⟨ed_in (i := 462) (by decide +kernel) rfl, ed_iq (i := 13) (by decide +kernel) rfl⟩
theorem me_Desk_satisfyAll : ed_me y_Desk_satisfyAll prog_1_method_46_code 5 (some .int) 1 := ⟨mc_Desk_satisfyAll, ed_in (i := 1) (by decide +kernel) rfl, by decide +kernel, by decide +kernel, by decide +kernel⟩
theorem mv_Desk_satisfyAll : ed_mv y_Desk_satisfyAll := ⟨ed_in (i := 450) (by decide +kernel) rfl, ed_iq (i := 12) (by decide +kernel) rfl⟩
theorem me_Desk_beginWait : ed_me y_Desk_beginWait prog_1_method_47_code 4 none 2 := ⟨mc_Desk_beginWait, ed_in (i := 1) (by decide +kernel) rfl, by decide +kernel, by decide +kernel, by decide +kernel⟩
theorem mv_Desk_beginWait : ed_mv y_Desk_beginWait := ⟨ed_in (i := 511) (by decide +kernel) rfl, ed_iq (i := 21) (by decide +kernel) rfl⟩
theorem me_Desk_endWait : ed_me y_Desk_endWait prog_1_method_48_code 3 none 2 := ⟨mc_Desk_endWait, ed_in (i := 1) (by decide +kernel) rfl, by decide +kernel, by decide +kernel, by decide +kernel⟩
theorem mv_Desk_endWait : ed_mv y_Desk_endWait := ⟨ed_in (i := 466) (by decide +kernel) rfl, ed_iq (i := 14) (by decide +kernel) rfl⟩
theorem me_Desk_pointToPlacesOf : ed_me y_Desk_pointToPlacesOf prog_1_method_49_code 5 none 2 := ⟨mc_Desk_pointToPlacesOf, ed_in (i := 1) (by decide +kernel) rfl, by decide +kernel, by decide +kernel, by decide +kernel⟩
theorem mv_Desk_pointToPlacesOf : ed_mv y_Desk_pointToPlacesOf := ⟨ed_in (i := 474) (by decide +kernel) rfl, ed_iq (i := 15) (by decide +kernel) rfl⟩
theorem me_Desk_release : ed_me y_Desk_release prog_1_method_50_code 5 none 0 := ⟨mc_Desk_release, ed_in (i := 1) (by decide +kernel) rfl, by decide +kernel, by decide +kernel, by decide +kernel⟩
theorem mv_Desk_release : ed_mv y_Desk_release := ⟨ed_in (i := 438) (by decide +kernel) rfl, ed_iq (i := 10) (by decide +kernel) rfl⟩
theorem me_Desk_alertIfDue : ed_me y_Desk_alertIfDue prog_1_method_51_code 3 none 1 := ⟨mc_Desk_alertIfDue, ed_in (i := 1) (by decide +kernel) rfl, by decide +kernel, by decide +kernel, by decide +kernel⟩
theorem mv_Desk_alertIfDue : ed_mv y_Desk_alertIfDue := ⟨ed_in (i := 520) (by decide +kernel) rfl, ed_iq (i := 22) (by decide +kernel) rfl⟩
theorem me_Desk_finishFirst : ed_me y_Desk_finishFirst prog_1_method_52_code 5 none 2 := ⟨mc_Desk_finishFirst, ed_in (i := 1) (by decide +kernel) rfl, by decide +kernel, by decide +kernel, by decide +kernel⟩
theorem mv_Desk_finishFirst : ed_mv y_Desk_finishFirst := ⟨ed_in (i := 529) (by decide +kernel) rfl, ed_iq (i := 23) (by decide +kernel) rfl⟩
theorem me_Desk_sendDown : ed_me y_Desk_sendDown prog_1_method_53_code 5 none 2 := ⟨mc_Desk_sendDown, ed_in (i := 1) (by decide +kernel) rfl, by decide +kernel, by decide +kernel, by decide +kernel⟩
theorem mv_Desk_sendDown : ed_mv y_Desk_sendDown := ⟨ed_in (i := 565) (by decide +kernel) rfl, ed_iq (i := 28) (by decide +kernel) rfl⟩
theorem me_Desk_withdraw : ed_me y_Desk_withdraw prog_1_method_54_code 3 (some .int) 1 := ⟨mc_Desk_withdraw, ed_in (i := 1) (by decide +kernel) rfl, by decide +kernel, by decide +kernel, by decide +kernel⟩
theorem mv_Desk_withdraw : ed_mv y_Desk_withdraw := ⟨ed_in (i := 580) (by decide +kernel) rfl, ed_iq (i := 30) (by decide +kernel) rfl⟩
theorem me_Desk_conclude : ed_me y_Desk_conclude prog_1_method_55_code 4 none 3 := ⟨mc_Desk_conclude, ed_in (i := 1) (by decide +kernel) rfl, by decide +kernel, by decide +kernel, by decide +kernel⟩
theorem mv_Desk_conclude : ed_mv y_Desk_conclude := ⟨ed_in (i := 533) (by decide +kernel) rfl, ed_iq (i := 24) (by decide +kernel) rfl⟩
theorem me_Desk_pointToObjectsOf : ed_me y_Desk_pointToObjectsOf prog_1_method_56_code 3 none 2 := ⟨mc_Desk_pointToObjectsOf, ed_in (i := 1) (by decide +kernel) rfl, by decide +kernel, by decide +kernel, by decide +kernel⟩
theorem mv_Desk_pointToObjectsOf : ed_mv y_Desk_pointToObjectsOf := ⟨ed_in (i := 537) (by decide +kernel) rfl, ed_iq (i := 25) (by decide +kernel) rfl⟩
theorem me_Desk_abandonMutantsOf : ed_me y_Desk_abandonMutantsOf prog_1_method_57_code 4 none 1 := ⟨mc_Desk_abandonMutantsOf, ed_in (i := 1) (by decide +kernel) rfl, by decide +kernel, by decide +kernel, by decide +kernel⟩
theorem mv_Desk_abandonMutantsOf : ed_mv y_Desk_abandonMutantsOf := ⟨ed_in (i := 592) (by decide +kernel) rfl, ed_iq (i := 31) (by decide +kernel) rfl⟩
theorem me_Desk_passOneTick : ed_me y_Desk_passOneTick prog_1_method_58_code 2 none 0 := ⟨mc_Desk_passOneTick, ed_in (i := 1) (by decide +kernel) rfl, by decide +kernel, by decide +kernel, by decide +kernel⟩
theorem mv_Desk_passOneTick : ed_mv y_Desk_passOneTick := ⟨ed_in (i := 604) (by decide +kernel) rfl, ed_iq (i := 33) (by decide +kernel) rfl⟩
theorem me_Desk_signalTimersDue : ed_me y_Desk_signalTimersDue prog_1_method_59_code 3 none 0 := ⟨mc_Desk_signalTimersDue, ed_in (i := 1) (by decide +kernel) rfl, by decide +kernel, by decide +kernel, by decide +kernel⟩
theorem mv_Desk_signalTimersDue : ed_mv y_Desk_signalTimersDue := ⟨ed_in (i := 608) (by decide +kernel) rfl, ed_iq (i := 34) (by decide +kernel) rfl⟩
theorem me_Desk_endWaitsTimedOut : ed_me y_Desk_endWaitsTimedOut prog_1_method_60_code 2 none 0 := ⟨mc_Desk_endWaitsTimedOut, ed_in (i := 1) (by decide +kernel) rfl, by decide +kernel, by decide +kernel, by decide +kernel⟩
theorem mv_Desk_endWaitsTimedOut : ed_mv y_Desk_endWaitsTimedOut := ⟨ed_in (i := 612) (by decide +kernel) rfl, ed_iq (i := 35) (by decide +kernel) rfl⟩
theorem me_Sched_init : ed_me y_Sched_init prog_6_method_1_code 2 none 0 := ⟨mc_Sched_init, ed_in (i := 2) (by decide +kernel) rfl, by decide +kernel, by decide +kernel, by decide +kernel⟩
theorem me_Sched_makeReady : ed_me y_Sched_makeReady prog_6_method_2_code 2 none 1 := ⟨mc_Sched_makeReady, ed_in (i := 2) (by decide +kernel) rfl, by decide +kernel, by decide +kernel, by decide +kernel⟩
theorem mv_Sched_makeReady : ed_mv y_Sched_makeReady := ⟨ed_in (i := 313) (by decide +kernel) rfl, ed_in (i := 314) (by decide +kernel) rfl⟩
theorem me_Sched_look : ed_me y_Sched_look prog_6_method_3_code 3 none 0 := ⟨mc_Sched_look, ed_in (i := 2) (by decide +kernel) rfl, by decide +kernel, by decide +kernel, by decide +kernel⟩
theorem mv_Sched_look : ed_mv y_Sched_look := ⟨ed_in (i := 325) (by decide +kernel) rfl, ed_in (i := 326) (by decide +kernel) rfl⟩
theorem me_Sched_useQuantum : ed_me y_Sched_useQuantum prog_6_method_4_code 2 none 0 := ⟨mc_Sched_useQuantum, ed_in (i := 2) (by decide +kernel) rfl, by decide +kernel, by decide +kernel, by decide +kernel⟩
theorem mv_Sched_useQuantum : ed_mv y_Sched_useQuantum := ⟨ed_in (i := 615) (by decide +kernel) rfl, ed_in (i := 616) (by decide +kernel) rfl⟩
theorem me_Sched_bestPriority : ed_me y_Sched_bestPriority prog_6_method_5_code 2 (some .int) 0 := ⟨mc_Sched_bestPriority, ed_in (i := 2) (by decide +kernel) rfl, by decide +kernel, by decide +kernel, by decide +kernel⟩
theorem mv_Sched_bestPriority : ed_mv y_Sched_bestPriority := ⟨ed_in (i := 330) (by decide +kernel) rfl, ed_iq (i := 1) (by decide +kernel) rfl⟩
theorem me_Sched_runFirstOf : ed_me y_Sched_runFirstOf prog_6_method_6_code 2 none 1 := ⟨mc_Sched_runFirstOf, ed_in (i := 2) (by decide +kernel) rfl, by decide +kernel, by decide +kernel, by decide +kernel⟩
theorem mv_Sched_runFirstOf : ed_mv y_Sched_runFirstOf := ⟨ed_in (i := 338) (by decide +kernel) rfl, ed_iq (i := 2) (by decide +kernel) rfl⟩
theorem me_Thr_init : ed_me y_Thr_init prog_7_method_1_code 1 none 0 := ⟨mc_Thr_init, ed_in (i := 3) (by decide +kernel) rfl, by decide +kernel, by decide +kernel, by decide +kernel⟩
theorem me_Thr_wish : ed_me y_Thr_wish prog_7_method_2_code 5 none 4 := ⟨mc_Thr_wish, ed_in (i := 3) (by decide +kernel) rfl, by decide +kernel, by decide +kernel, by decide +kernel⟩
theorem mv_Thr_wish : ed_mv y_Thr_wish := ⟨ed_in (i := 501) (by decide +kernel) rfl, ed_in (i := 502) (by decide +kernel) rfl⟩
theorem me_Thr_deliverCalls : ed_me y_Thr_deliverCalls prog_7_method_3_code 2 none 0 := ⟨mc_Thr_deliverCalls, ed_in (i := 3) (by decide +kernel) rfl, by decide +kernel, by decide +kernel, by decide +kernel⟩
theorem mv_Thr_deliverCalls : ed_mv y_Thr_deliverCalls := ⟨ed_in (i := 505) (by decide +kernel) rfl, ed_in (i := 506) (by decide +kernel) rfl⟩
theorem me_Row_init : ed_me y_Row_init prog_4_method_1_code 2 none 1 := ⟨mc_Row_init, ed_in (i := 4) (by decide +kernel) rfl, by decide +kernel, by decide +kernel, by decide +kernel⟩
theorem me_Row_get : ed_me y_Row_get prog_4_method_2_code 2 (some .int) 1 := ⟨mc_Row_get, ed_in (i := 4) (by decide +kernel) rfl, by decide +kernel, by decide +kernel, by decide +kernel⟩
theorem mv_Row_get : ed_mv y_Row_get := ⟨ed_in (i := 441) (by decide +kernel) rfl, ed_in (i := 442) (by decide +kernel) rfl⟩
theorem me_Row_first : ed_me y_Row_first prog_4_method_3_code 1 (some .int) 0 := ⟨mc_Row_first, ed_in (i := 4) (by decide +kernel) rfl, by decide +kernel, by decide +kernel, by decide +kernel⟩
theorem mv_Row_first : ed_mv y_Row_first := ⟨ed_in (i := 583) (by decide +kernel) rfl, ed_in (i := 584) (by decide +kernel) rfl⟩
theorem me_Row_addLast : ed_me y_Row_addLast prog_4_method_4_code 2 none 1 := ⟨mc_Row_addLast, ed_in (i := 4) (by decide +kernel) rfl, by decide +kernel, by decide +kernel, by decide +kernel⟩
theorem mv_Row_addLast : ed_mv y_Row_addLast := ⟨ed_in (i := 317) (by decide +kernel) rfl, ed_in (i := 318) (by decide +kernel) rfl⟩
theorem me_Row_addFirst : ed_me y_Row_addFirst prog_4_method_5_code 3 none 1 := ⟨mc_Row_addFirst, ed_in (i := 4) (by decide +kernel) rfl, by decide +kernel, by decide +kernel, by decide +kernel⟩
theorem mv_Row_addFirst : ed_mv y_Row_addFirst := ⟨ed_in (i := 333) (by decide +kernel) rfl, ed_in (i := 334) (by decide +kernel) rfl⟩
theorem me_Row_removeFirst : ed_me y_Row_removeFirst prog_4_method_6_code 3 (some .int) 0 := ⟨mc_Row_removeFirst, ed_in (i := 4) (by decide +kernel) rfl, by decide +kernel, by decide +kernel, by decide +kernel⟩
theorem mv_Row_removeFirst : ed_mv y_Row_removeFirst := ⟨ed_in (i := 341) (by decide +kernel) rfl, ed_in (i := 342) (by decide +kernel) rfl⟩
theorem me_Row_removeValue : ed_me y_Row_removeValue prog_4_method_7_code 4 none 1 := ⟨mc_Row_removeValue, ed_in (i := 4) (by decide +kernel) rfl, by decide +kernel, by decide +kernel, by decide +kernel⟩
theorem mv_Row_removeValue : ed_mv y_Row_removeValue := ⟨ed_in (i := 469) (by decide +kernel) rfl, ed_in (i := 470) (by decide +kernel) rfl⟩
theorem me_Proc_init : ed_me y_Proc_init prog_3_method_1_code 2 none 0 := ⟨mc_Proc_init, ed_in (i := 5) (by decide +kernel) rfl, by decide +kernel, by decide +kernel, by decide +kernel⟩
theorem me_Proc_hasEnded : ed_me y_Proc_hasEnded prog_3_method_2_code 1 (some .boolean) 0 := ⟨mc_Proc_hasEnded, ed_in (i := 5) (by decide +kernel) rfl, by decide +kernel, by decide +kernel, by decide +kernel⟩
theorem mv_Proc_hasEnded : ed_mv y_Proc_hasEnded := ⟨ed_in (i := 309) (by decide +kernel) rfl, ed_in (i := 310) (by decide +kernel) rfl⟩
theorem me_Proc_objectOf : ed_me y_Proc_objectOf prog_3_method_3_code 2 (some .int) 1 := ⟨mc_Proc_objectOf, ed_in (i := 5) (by decide +kernel) rfl, by decide +kernel, by decide +kernel, by decide +kernel⟩
theorem mv_Proc_objectOf : ed_mv y_Proc_objectOf := ⟨ed_in (i := 396) (by decide +kernel) rfl, ed_in (i := 397) (by decide +kernel) rfl⟩
theorem me_Proc_rightsOf : ed_me y_Proc_rightsOf prog_3_method_4_code 2 (some .int) 1 := ⟨mc_Proc_rightsOf, ed_in (i := 5) (by decide +kernel) rfl, by decide +kernel, by decide +kernel, by decide +kernel⟩
theorem mv_Proc_rightsOf : ed_mv y_Proc_rightsOf := ⟨ed_in (i := 414) (by decide +kernel) rfl, ed_in (i := 415) (by decide +kernel) rfl⟩
theorem me_Proc_lacks : ed_me y_Proc_lacks prog_3_method_5_code 3 (some .boolean) 2 := ⟨mc_Proc_lacks, ed_in (i := 5) (by decide +kernel) rfl, by decide +kernel, by decide +kernel, by decide +kernel⟩
theorem mv_Proc_lacks : ed_mv y_Proc_lacks := ⟨ed_in (i := 409) (by decide +kernel) rfl, ed_in (i := 410) (by decide +kernel) rfl⟩
theorem me_Proc_freeHandle : ed_me y_Proc_freeHandle prog_3_method_6_code 2 (some .int) 0 := ⟨mc_Proc_freeHandle, ed_in (i := 5) (by decide +kernel) rfl, by decide +kernel, by decide +kernel, by decide +kernel⟩
theorem mv_Proc_freeHandle : ed_mv y_Proc_freeHandle := ⟨ed_in (i := 364) (by decide +kernel) rfl, ed_in (i := 365) (by decide +kernel) rfl⟩
theorem me_Obj_init : ed_me y_Obj_init prog_2_method_1_code 1 none 0 := ⟨mc_Obj_init, ed_in (i := 6) (by decide +kernel) rfl, by decide +kernel, by decide +kernel, by decide +kernel⟩
theorem me_Obj_begin : ed_me y_Obj_begin prog_2_method_2_code 4 none 3 := ⟨mc_Obj_begin, ed_in (i := 6) (by decide +kernel) rfl, by decide +kernel, by decide +kernel, by decide +kernel⟩
theorem mv_Obj_begin : ed_mv y_Obj_begin := ⟨ed_in (i := 376) (by decide +kernel) rfl, ed_in (i := 377) (by decide +kernel) rfl⟩
theorem me_Obj_isThere : ed_me y_Obj_isThere prog_2_method_3_code 1 (some .boolean) 0 := ⟨mc_Obj_isThere, ed_in (i := 6) (by decide +kernel) rfl, by decide +kernel, by decide +kernel, by decide +kernel⟩
theorem mv_Obj_isThere : ed_mv y_Obj_isThere := ⟨ed_in (i := 372) (by decide +kernel) rfl, ed_in (i := 373) (by decide +kernel) rfl⟩
theorem me_Obj_currentName : ed_me y_Obj_currentName prog_2_method_4_code 1 (some .int) 0 := ⟨mc_Obj_currentName, ed_in (i := 6) (by decide +kernel) rfl, by decide +kernel, by decide +kernel, by decide +kernel⟩
theorem mv_Obj_currentName : ed_mv y_Obj_currentName := ⟨ed_in (i := 356) (by decide +kernel) rfl, ed_in (i := 357) (by decide +kernel) rfl⟩
theorem me_Obj_hasLayer : ed_me y_Obj_hasLayer prog_2_method_5_code 2 (some .boolean) 1 := ⟨mc_Obj_hasLayer, ed_in (i := 6) (by decide +kernel) rfl, by decide +kernel, by decide +kernel, by decide +kernel⟩
theorem mv_Obj_hasLayer : ed_mv y_Obj_hasLayer := ⟨ed_in (i := 540) (by decide +kernel) rfl, ed_in (i := 541) (by decide +kernel) rfl⟩
theorem me_Obj_isSignaledFor : ed_me y_Obj_isSignaledFor prog_2_method_6_code 2 (some .boolean) 1 := ⟨mc_Obj_isSignaledFor, ed_in (i := 6) (by decide +kernel) rfl, by decide +kernel, by decide +kernel, by decide +kernel⟩
theorem mv_Obj_isSignaledFor : ed_mv y_Obj_isSignaledFor := ⟨ed_in (i := 453) (by decide +kernel) rfl, ed_in (i := 454) (by decide +kernel) rfl⟩
theorem me_Obj_take : ed_me y_Obj_take prog_2_method_7_code 3 (some .boolean) 1 := ⟨mc_Obj_take, ed_in (i := 6) (by decide +kernel) rfl, by decide +kernel, by decide +kernel, by decide +kernel⟩
theorem mv_Obj_take : ed_mv y_Obj_take := ⟨ed_in (i := 457) (by decide +kernel) rfl, ed_in (i := 458) (by decide +kernel) rfl⟩
theorem me_Rul_init : ed_me y_Rul_init prog_5_method_1_code 1 none 0 := ⟨mc_Rul_init, ed_in (i := 7) (by decide +kernel) rfl, by decide +kernel, by decide +kernel, by decide +kernel⟩
theorem me_Rul_append : ed_me y_Rul_append prog_5_method_2_code 4 none 3 := ⟨mc_Rul_append, ed_in (i := 7) (by decide +kernel) rfl, by decide +kernel, by decide +kernel, by decide +kernel⟩
theorem mv_Rul_append : ed_mv y_Rul_append := ⟨ed_in (i := 418) (by decide +kernel) rfl, ed_in (i := 419) (by decide +kernel) rfl⟩
theorem me_Rul_grants : ed_me y_Rul_grants prog_5_method_3_code 5 (some .boolean) 2 := ⟨mc_Rul_grants, ed_in (i := 7) (by decide +kernel) rfl, by decide +kernel, by decide +kernel, by decide +kernel⟩
theorem mv_Rul_grants : ed_mv y_Rul_grants := ⟨ed_in (i := 388) (by decide +kernel) rfl, ed_in (i := 389) (by decide +kernel) rfl⟩
theorem me_Tra_init : ed_me y_Tra_init prog_8_method_1_code 1 none 0 := ⟨mc_Tra_init, ed_in (i := 8) (by decide +kernel) rfl, by decide +kernel, by decide +kernel, by decide +kernel⟩
theorem me_Tra_begin : ed_me y_Tra_begin prog_8_method_2_code 5 none 4 := ⟨mc_Tra_begin, ed_in (i := 8) (by decide +kernel) rfl, by decide +kernel, by decide +kernel, by decide +kernel⟩
theorem mv_Tra_begin : ed_mv y_Tra_begin := ⟨ed_in (i := 560) (by decide +kernel) rfl, ed_in (i := 561) (by decide +kernel) rfl⟩
theorem me_Mod_init : ed_me y_Mod_init prog_10_method_1_code 2 none 0 := ⟨mc_Mod_init, ed_in (i := 9) (by decide +kernel) rfl, by decide +kernel, by decide +kernel, by decide +kernel⟩
theorem me_Mod_is : ed_me y_Mod_is prog_10_method_2_code 3 (some .boolean) 3 := ⟨mc_Mod_is, ed_in (i := 9) (by decide +kernel) rfl, by decide +kernel, by decide +kernel, by decide +kernel⟩
theorem me_Mod_handles : ed_me y_Mod_handles prog_10_method_3_code 4 (some .int) 1 := ⟨mc_Mod_handles, ed_in (i := 9) (by decide +kernel) rfl, by decide +kernel, by decide +kernel, by decide +kernel⟩
theorem mv_Mod_handles : ed_mv y_Mod_handles := ⟨ed_in (i := 840) (by decide +kernel) rfl, ed_iq (i := 41) (by decide +kernel) rfl⟩
theorem me_Mod_pointers : ed_me y_Mod_pointers prog_10_method_4_code 5 (some .int) 1 := ⟨mc_Mod_pointers, ed_in (i := 9) (by decide +kernel) rfl, by decide +kernel, by decide +kernel, by decide +kernel⟩
theorem mv_Mod_pointers : ed_mv y_Mod_pointers := ⟨ed_in (i := 844) (by decide +kernel) rfl, ed_iq (i := 42) (by decide +kernel) rfl⟩
theorem me_Mod_tidy : ed_me y_Mod_tidy prog_10_method_5_code 2 none 0 := ⟨mc_Mod_tidy, ed_in (i := 9) (by decide +kernel) rfl, by decide +kernel, by decide +kernel, by decide +kernel⟩
theorem mv_Mod_tidy : ed_mv y_Mod_tidy := ⟨ed_in (i := 836) (by decide +kernel) rfl, ed_iq (i := 40) (by decide +kernel) rfl⟩
theorem me_Mod_isHandle : ed_me y_Mod_isHandle prog_10_method_6_code 2 (some .boolean) 1 := ⟨mc_Mod_isHandle, ed_in (i := 9) (by decide +kernel) rfl, by decide +kernel, by decide +kernel, by decide +kernel⟩
theorem mv_Mod_isHandle : ed_mv y_Mod_isHandle := ⟨ed_in (i := 864) (by decide +kernel) rfl, ed_iq (i := 46) (by decide +kernel) rfl⟩
theorem me_Mod_objectOf : ed_me y_Mod_objectOf prog_10_method_7_code 2 (some .int) 1 := ⟨mc_Mod_objectOf, ed_in (i := 9) (by decide +kernel) rfl, by decide +kernel, by decide +kernel, by decide +kernel⟩
theorem mv_Mod_objectOf : ed_mv y_Mod_objectOf := ⟨ed_in (i := 868) (by decide +kernel) rfl, ed_iq (i := 47) (by decide +kernel) rfl⟩
theorem me_Mod_lacks : ed_me y_Mod_lacks prog_10_method_8_code 3 (some .boolean) 2 := ⟨mc_Mod_lacks, ed_in (i := 9) (by decide +kernel) rfl, by decide +kernel, by decide +kernel, by decide +kernel⟩
theorem mv_Mod_lacks : ed_mv y_Mod_lacks := ⟨ed_in (i := 872) (by decide +kernel) rfl, ed_iq (i := 48) (by decide +kernel) rfl⟩
theorem me_Mod_freeHandle : ed_me y_Mod_freeHandle prog_10_method_9_code 2 (some .int) 0 := ⟨mc_Mod_freeHandle, ed_in (i := 9) (by decide +kernel) rfl, by decide +kernel, by decide +kernel, by decide +kernel⟩
theorem mv_Mod_freeHandle : ed_mv y_Mod_freeHandle := ⟨ed_in (i := 900) (by decide +kernel) rfl, ed_iq (i := 54) (by decide +kernel) rfl⟩
theorem me_Mod_named : ed_me y_Mod_named prog_10_method_10_code 3 (some .int) 1 := ⟨mc_Mod_named, ed_in (i := 9) (by decide +kernel) rfl, by decide +kernel, by decide +kernel, by decide +kernel⟩
theorem mv_Mod_named : ed_mv y_Mod_named := ⟨ed_in (i := 896) (by decide +kernel) rfl, ed_iq (i := 53) (by decide +kernel) rfl⟩
theorem me_Mod_process : ed_me y_Mod_process prog_10_method_11_code 2 (some .int) 1 := ⟨mc_Mod_process, ed_in (i := 9) (by decide +kernel) rfl, by decide +kernel, by decide +kernel, by decide +kernel⟩
theorem mv_Mod_process : ed_mv y_Mod_process := ⟨ed_in (i := 816) (by decide +kernel) rfl, ed_in (i := 817) (by decide +kernel) rfl⟩
theorem me_Mod_thread : ed_me y_Mod_thread prog_10_method_12_code 4 (some .int) 2 := ⟨mc_Mod_thread, ed_in (i := 9) (by decide +kernel) rfl, by decide +kernel, by decide +kernel, by decide +kernel⟩
theorem mv_Mod_thread : ed_mv y_Mod_thread := ⟨ed_in (i := 823) (by decide +kernel) rfl, ed_in (i := 824) (by decide +kernel) rfl⟩
theorem me_Mod_ready : ed_me y_Mod_ready prog_10_method_13_code 2 none 1 := ⟨mc_Mod_ready, ed_in (i := 9) (by decide +kernel) rfl, by decide +kernel, by decide +kernel, by decide +kernel⟩
theorem mv_Mod_ready : ed_mv y_Mod_ready := ⟨ed_in (i := 828) (by decide +kernel) rfl, ed_iq (i := 38) (by decide +kernel) rfl⟩
theorem me_Mod_next : ed_me y_Mod_next prog_10_method_14_code 3 (some .int) 0 := ⟨mc_Mod_next, ed_in (i := 9) (by decide +kernel) rfl, by decide +kernel, by decide +kernel, by decide +kernel⟩
theorem mv_Mod_next : ed_mv y_Mod_next := ⟨ed_in (i := 852) (by decide +kernel) rfl, ed_iq (i := 44) (by decide +kernel) rfl⟩
theorem me_Mod_run : ed_me y_Mod_run prog_10_method_15_code 2 none 1 := ⟨mc_Mod_run, ed_in (i := 9) (by decide +kernel) rfl, by decide +kernel, by decide +kernel, by decide +kernel⟩
theorem mv_Mod_run : ed_mv y_Mod_run := ⟨ed_in (i := 856) (by decide +kernel) rfl, ed_iq (i := 45) (by decide +kernel) rfl⟩
theorem me_Mod_look : ed_me y_Mod_look prog_10_method_16_code 2 none 0 := ⟨mc_Mod_look, ed_in (i := 9) (by decide +kernel) rfl, by decide +kernel, by decide +kernel, by decide +kernel⟩
theorem mv_Mod_look : ed_mv y_Mod_look := ⟨ed_in (i := 848) (by decide +kernel) rfl, ed_iq (i := 43) (by decide +kernel) rfl⟩
theorem me_Mod_end : ed_me y_Mod_end prog_10_method_17_code 2 (some .int) 1 := ⟨mc_Mod_end, ed_in (i := 9) (by decide +kernel) rfl, by decide +kernel, by decide +kernel, by decide +kernel⟩
theorem mv_Mod_end : ed_mv y_Mod_end := ⟨ed_in (i := 832) (by decide +kernel) rfl, ed_iq (i := 39) (by decide +kernel) rfl⟩
theorem me_Mod_isSignaled : ed_me y_Mod_isSignaled prog_10_method_18_code 3 (some .boolean) 2 := ⟨mc_Mod_isSignaled, ed_in (i := 9) (by decide +kernel) rfl, by decide +kernel, by decide +kernel, by decide +kernel⟩
theorem mv_Mod_isSignaled : ed_mv y_Mod_isSignaled := ⟨ed_in (i := 884) (by decide +kernel) rfl, ed_iq (i := 51) (by decide +kernel) rfl⟩
theorem me_Mod_take : ed_me y_Mod_take prog_10_method_19_code 4 (some .int) 2 := ⟨mc_Mod_take, ed_in (i := 9) (by decide +kernel) rfl, by decide +kernel, by decide +kernel, by decide +kernel⟩
theorem mv_Mod_take : ed_mv y_Mod_take := ⟨ed_in (i := 888) (by decide +kernel) rfl, ed_iq (i := 52) (by decide +kernel) rfl⟩
theorem me_Mod_satisfy : ed_me y_Mod_satisfy prog_10_method_20_code 7 (some .int) 1 := ⟨mc_Mod_satisfy, ed_in (i := 9) (by decide +kernel) rfl, by decide +kernel, by decide +kernel, by decide +kernel⟩
theorem mv_Mod_satisfy : ed_mv y_Mod_satisfy := ⟨ed_in (i := 880) (by decide +kernel) rfl, ed_iq (i := 50) (by decide +kernel) rfl⟩
theorem me_Mod_go : ed_me y_Mod_go prog_10_method_21_code 3 none 2 := ⟨mc_Mod_go, ed_in (i := 9) (by decide +kernel) rfl, by decide +kernel, by decide +kernel, by decide +kernel⟩
theorem mv_Mod_go : ed_mv y_Mod_go := ⟨ed_in (i := 932) (by decide +kernel) rfl, ed_iq (i := 58) (by decide +kernel) rfl⟩
theorem me_Mod_release : ed_me y_Mod_release prog_10_method_22_code 4 none 0 := ⟨mc_Mod_release, ed_in (i := 9) (by decide +kernel) rfl, by decide +kernel, by decide +kernel, by decide +kernel⟩
theorem mv_Mod_release : ed_mv y_Mod_release := ⟨ed_in (i := 924) (by decide +kernel) rfl, ed_iq (i := 56) (by decide +kernel) rfl⟩
theorem me_Mod_waiter : ed_me y_Mod_waiter prog_10_method_23_code 4 (some .int) 1 := ⟨mc_Mod_waiter, ed_in (i := 9) (by decide +kernel) rfl, by decide +kernel, by decide +kernel, by decide +kernel⟩
theorem mv_Mod_waiter : ed_mv y_Mod_waiter := ⟨ed_in (i := 928) (by decide +kernel) rfl, ed_iq (i := 57) (by decide +kernel) rfl⟩
theorem me_Mod_signal : ed_me y_Mod_signal prog_10_method_24_code 2 none 1 := ⟨mc_Mod_signal, ed_in (i := 9) (by decide +kernel) rfl, by decide +kernel, by decide +kernel, by decide +kernel⟩
theorem mv_Mod_signal : ed_mv y_Mod_signal := ⟨ed_in (i := 960) (by decide +kernel) rfl, ed_iq (i := 63) (by decide +kernel) rfl⟩
theorem me_Mod_deliver : ed_me y_Mod_deliver prog_10_method_25_code 2 none 1 := ⟨mc_Mod_deliver, ed_in (i := 9) (by decide +kernel) rfl, by decide +kernel, by decide +kernel, by decide +kernel⟩
theorem mv_Mod_deliver : ed_mv y_Mod_deliver := ⟨ed_in (i := 876) (by decide +kernel) rfl, ed_iq (i := 49) (by decide +kernel) rfl⟩
theorem me_Mod_alert : ed_me y_Mod_alert prog_10_method_26_code 2 none 1 := ⟨mc_Mod_alert, ed_in (i := 9) (by decide +kernel) rfl, by decide +kernel, by decide +kernel, by decide +kernel⟩
theorem mv_Mod_alert : ed_mv y_Mod_alert := ⟨ed_in (i := 940) (by decide +kernel) rfl, ed_iq (i := 59) (by decide +kernel) rfl⟩
theorem me_Mod_await : ed_me y_Mod_await prog_10_method_27_code 13 (some .int) 5 := ⟨mc_Mod_await, ed_in (i := 9) (by decide +kernel) rfl, by decide +kernel, by decide +kernel, by decide +kernel⟩
theorem mv_Mod_await : ed_mv y_Mod_await := ⟨ed_in (i := 859) (by decide +kernel) rfl, ed_in (i := 860) (by decide +kernel) rfl⟩
theorem me_Mod_create : ed_me y_Mod_create prog_10_method_28_code 7 (some .int) 3 := ⟨mc_Mod_create, ed_in (i := 9) (by decide +kernel) rfl, by decide +kernel, by decide +kernel, by decide +kernel⟩
theorem mv_Mod_create : ed_mv y_Mod_create := ⟨ed_in (i := 891) (by decide +kernel) rfl, ed_in (i := 892) (by decide +kernel) rfl⟩
theorem me_Mod_use : ed_me y_Mod_use prog_10_method_29_code 4 (some .int) 3 := ⟨mc_Mod_use, ed_in (i := 9) (by decide +kernel) rfl, by decide +kernel, by decide +kernel, by decide +kernel⟩
theorem mv_Mod_use : ed_mv y_Mod_use := ⟨ed_in (i := 904) (by decide +kernel) rfl, ed_iq (i := 55) (by decide +kernel) rfl⟩
theorem me_Mod_opn : ed_me y_Mod_opn prog_10_method_30_code 7 (some .int) 2 := ⟨mc_Mod_opn, ed_in (i := 9) (by decide +kernel) rfl, by decide +kernel, by decide +kernel, by decide +kernel⟩
theorem mv_Mod_opn : ed_mv y_Mod_opn := ⟨ed_in (i := 907) (by decide +kernel) rfl, ed_in (i := 908) (by decide +kernel) rfl⟩
theorem me_Mod_clse : ed_me y_Mod_clse prog_10_method_31_code 4 (some .int) 1 := ⟨mc_Mod_clse, ed_in (i := 9) (by decide +kernel) rfl, by decide +kernel, by decide +kernel, by decide +kernel⟩
theorem mv_Mod_clse : ed_mv y_Mod_clse := ⟨ed_in (i := 911) (by decide +kernel) rfl, ed_in (i := 912) (by decide +kernel) rfl⟩
theorem me_Mod_rule : ed_me y_Mod_rule prog_10_method_32_code 7 (some .int) 4 := ⟨mc_Mod_rule, ed_in (i := 9) (by decide +kernel) rfl, by decide +kernel, by decide +kernel, by decide +kernel⟩
theorem mv_Mod_rule : ed_mv y_Mod_rule := ⟨ed_in (i := 915) (by decide +kernel) rfl, ed_in (i := 916) (by decide +kernel) rfl⟩
theorem me_Mod_sett : ed_me y_Mod_sett prog_10_method_33_code 7 (some .int) 2 := ⟨mc_Mod_sett, ed_in (i := 9) (by decide +kernel) rfl, by decide +kernel, by decide +kernel, by decide +kernel⟩
theorem mv_Mod_sett : ed_mv y_Mod_sett := ⟨ed_in (i := 919) (by decide +kernel) rfl, ed_in (i := 920) (by decide +kernel) rfl⟩
theorem me_Mod_call : ed_me y_Mod_call prog_10_method_34_code 3 (some .int) 2 := ⟨mc_Mod_call, ed_in (i := 9) (by decide +kernel) rfl, by decide +kernel, by decide +kernel, by decide +kernel⟩
theorem mv_Mod_call : ed_mv y_Mod_call := ⟨ed_in (i := 935) (by decide +kernel) rfl, ed_in (i := 936) (by decide +kernel) rfl⟩
theorem me_Mod_level : ed_me y_Mod_level prog_10_method_35_code 6 (some .int) 1 := ⟨mc_Mod_level, ed_in (i := 9) (by decide +kernel) rfl, by decide +kernel, by decide +kernel, by decide +kernel⟩
theorem mv_Mod_level : ed_mv y_Mod_level := ⟨ed_in (i := 943) (by decide +kernel) rfl, ed_in (i := 944) (by decide +kernel) rfl⟩
theorem me_Mod_firstOf : ed_me y_Mod_firstOf prog_10_method_36_code 4 (some .int) 1 := ⟨mc_Mod_firstOf, ed_in (i := 9) (by decide +kernel) rfl, by decide +kernel, by decide +kernel, by decide +kernel⟩
theorem mv_Mod_firstOf : ed_mv y_Mod_firstOf := ⟨ed_in (i := 952) (by decide +kernel) rfl, ed_iq (i := 61) (by decide +kernel) rfl⟩
theorem me_Mod_over : ed_me y_Mod_over prog_10_method_37_code 4 none 3 := ⟨mc_Mod_over, ed_in (i := 9) (by decide +kernel) rfl, by decide +kernel, by decide +kernel, by decide +kernel⟩
theorem mv_Mod_over : ed_mv y_Mod_over := ⟨ed_in (i := 956) (by decide +kernel) rfl, ed_iq (i := 62) (by decide +kernel) rfl⟩
theorem me_Mod_finish : ed_me y_Mod_finish prog_10_method_38_code 4 none 2 := ⟨mc_Mod_finish, ed_in (i := 9) (by decide +kernel) rfl, by decide +kernel, by decide +kernel, by decide +kernel⟩
theorem mv_Mod_finish : ed_mv y_Mod_finish := ⟨ed_in (i := 948) (by decide +kernel) rfl, ed_iq (i := 60) (by decide +kernel) rfl⟩
theorem me_Mod_interrupt : ed_me y_Mod_interrupt prog_10_method_39_code 3 (some .int) 2 := ⟨mc_Mod_interrupt, ed_in (i := 9) (by decide +kernel) rfl, by decide +kernel, by decide +kernel, by decide +kernel⟩
theorem mv_Mod_interrupt : ed_mv y_Mod_interrupt := ⟨ed_in (i := 963) (by decide +kernel) rfl, ed_in (i := 964) (by decide +kernel) rfl⟩
theorem me_Mod_transfer : ed_me y_Mod_transfer prog_10_method_40_code 9 (some .int) 4 := ⟨mc_Mod_transfer, ed_in (i := 9) (by decide +kernel) rfl, by decide +kernel, by decide +kernel, by decide +kernel⟩
theorem mv_Mod_transfer : ed_mv y_Mod_transfer := ⟨ed_in (i := 967) (by decide +kernel) rfl, ed_in (i := 968) (by decide +kernel) rfl⟩
theorem me_Mod_drop : ed_me y_Mod_drop prog_10_method_41_code 2 (some .int) 1 := ⟨mc_Mod_drop, ed_in (i := 9) (by decide +kernel) rfl, by decide +kernel, by decide +kernel, by decide +kernel⟩
theorem mv_Mod_drop : ed_mv y_Mod_drop := ⟨ed_in (i := 976) (by decide +kernel) rfl, ed_iq (i := 64) (by decide +kernel) rfl⟩
theorem me_Mod_cancel : ed_me y_Mod_cancel prog_10_method_42_code 3 (some .int) 1 := ⟨mc_Mod_cancel, ed_in (i := 9) (by decide +kernel) rfl, by decide +kernel, by decide +kernel, by decide +kernel⟩
theorem mv_Mod_cancel : ed_mv y_Mod_cancel := ⟨ed_in (i := 971) (by decide +kernel) rfl, ed_in (i := 972) (by decide +kernel) rfl⟩
theorem me_Mod_exit : ed_me y_Mod_exit prog_10_method_43_code 4 (some .int) 0 := ⟨mc_Mod_exit, ed_in (i := 9) (by decide +kernel) rfl, by decide +kernel, by decide +kernel, by decide +kernel⟩
theorem mv_Mod_exit : ed_mv y_Mod_exit := ⟨ed_in (i := 979) (by decide +kernel) rfl, ed_in (i := 980) (by decide +kernel) rfl⟩
theorem me_Mod_tick : ed_me y_Mod_tick prog_10_method_44_code 3 (some .int) 1 := ⟨mc_Mod_tick, ed_in (i := 9) (by decide +kernel) rfl, by decide +kernel, by decide +kernel, by decide +kernel⟩
theorem mv_Mod_tick : ed_mv y_Mod_tick := ⟨ed_in (i := 983) (by decide +kernel) rfl, ed_in (i := 984) (by decide +kernel) rfl⟩
theorem me_Mod_once : ed_me y_Mod_once prog_10_method_45_code 3 none 0 := ⟨mc_Mod_once, ed_in (i := 9) (by decide +kernel) rfl, by decide +kernel, by decide +kernel, by decide +kernel⟩
theorem mv_Mod_once : ed_mv y_Mod_once := ⟨ed_in (i := 988) (by decide +kernel) rfl, ed_iq (i := 65) (by decide +kernel) rfl⟩
theorem me_Mod_actor : ed_me y_Mod_actor prog_10_method_46_code 3 (some .int) 2 := ⟨mc_Mod_actor, ed_in (i := 9) (by decide +kernel) rfl, by decide +kernel, by decide +kernel, by decide +kernel⟩
theorem mv_Mod_actor : ed_mv y_Mod_actor := ⟨ed_in (i := 991) (by decide +kernel) rfl, ed_in (i := 992) (by decide +kernel) rfl⟩
theorem me_Mod_rowOf : ed_me y_Mod_rowOf prog_10_method_47_code 4 (some .int) 1 := ⟨mc_Mod_rowOf, ed_in (i := 9) (by decide +kernel) rfl, by decide +kernel, by decide +kernel, by decide +kernel⟩
theorem mv_Mod_rowOf : ed_mv y_Mod_rowOf := ⟨ed_in (i := 1000) (by decide +kernel) rfl, ed_iq (i := 66) (by decide +kernel) rfl⟩
theorem me_Mod_object : ed_me y_Mod_object prog_10_method_48_code 4 (some .int) 2 := ⟨mc_Mod_object, ed_in (i := 9) (by decide +kernel) rfl, by decide +kernel, by decide +kernel, by decide +kernel⟩
theorem mv_Mod_object : ed_mv y_Mod_object := ⟨ed_in (i := 995) (by decide +kernel) rfl, ed_in (i := 996) (by decide +kernel) rfl⟩
theorem me_Mod_io : ed_me y_Mod_io prog_10_method_49_code 3 (some .int) 2 := ⟨mc_Mod_io, ed_in (i := 9) (by decide +kernel) rfl, by decide +kernel, by decide +kernel, by decide +kernel⟩
theorem mv_Mod_io : ed_mv y_Mod_io := ⟨ed_in (i := 1003) (by decide +kernel) rfl, ed_in (i := 1004) (by decide +kernel) rfl⟩
theorem me_Mod_handle : ed_me y_Mod_handle prog_10_method_50_code 4 (some .int) 3 := ⟨mc_Mod_handle, ed_in (i := 9) (by decide +kernel) rfl, by decide +kernel, by decide +kernel, by decide +kernel⟩
theorem mv_Mod_handle : ed_mv y_Mod_handle := ⟨ed_in (i := 1007) (by decide +kernel) rfl, ed_in (i := 1008) (by decide +kernel) rfl⟩
theorem me_Mod_count : ed_me y_Mod_count prog_10_method_51_code 4 (some .int) 1 := ⟨mc_Mod_count, ed_in (i := 9) (by decide +kernel) rfl, by decide +kernel, by decide +kernel, by decide +kernel⟩
theorem mv_Mod_count : ed_mv y_Mod_count := ⟨ed_in (i := 1011) (by decide +kernel) rfl, ed_in (i := 1012) (by decide +kernel) rfl⟩
def ed_B (p : Program) (s : State) (m : MethodId) (args : Array Value) (meth : Method) (c : Code) (cc : ByteArray) (own : String) (nL : Nat) (D : va_G) (ca : Nat → ClassId) : Prop :=
  p.tables.exec = Jvm.exec ∧ c.code = cc ∧ c.maxLocals = nL ∧ s.vm.findClass own = some m.cls ∧ (∀ w ∈ ed_tb, w.before args s = true) ∧ va_K D vwCl (ed_ty ca) s ∧ meth.locks = false ∧ va_Nw ed_n1 s
def ed_G (p : Program) (l : Launch) (e : Env) (R : Room) (s : State) (m : MethodId) (args : Array Value) (below : List Frame) (meth : Method) (c : Code) (D : va_G) (ca : Nat → ClassId) (w : ed_S → va_W) (A : Nat → Prop) (Q : State → Prop) (nL pc : Nat) (lv : List (Nat × Value)) (st : List Value) (σ : ed_S) : Prop :=
  ∀ (H : Heap) (locs : List Loc) (ls : Array Slot), va_P D vwCl (w σ) H → va_D A (w σ) → va_S A s.heap H locs → lv_has ls nL lv → W p l e R s m args below meth c H locs 0 0 Q (F0 m pc ls st)
/-- the world behind a method -/
def ed_bh (D : va_G) (ca : Nat → ClassId) (w : ed_S → va_W) (A : Nat → Prop) (u : ed_S) (t : State) : Prop := va_P D vwCl (w u) t.heap ∧ va_K D vwCl (ed_ty ca) t ∧ va_D A (w u)
def ed_QI (D : va_G) (ca : Nat → ClassId) (w : ed_S → va_W) (A : Nat → Prop) (below : List Frame) (args : Array Value) (s : State) (r : Int32) (σ : ed_S) : State → Prop := MQ below (va_Qi (fun (r2 : Int32) (u : ed_S) => r2 = r ∧ u = σ) (ed_bh D ca w A) A) args s 0 0 A
def ed_QV (D : va_G) (ca : Nat → ClassId) (w : ed_S → va_W) (A : Nat → Prop) (below : List Frame) (args : Array Value) (s : State) (σ : ed_S) : State → Prop := MQ below (va_Qv (fun (u : ed_S) => u = σ) (ed_bh D ca w A) A) args s 0 0 A
def ed_QR (pp : Nat → Nat) (D : va_G) (ca : Nat → ClassId) (w : ed_S → va_W) (A : Nat → Prop) (below : List Frame) (args : Array Value) (s : State) (r : Nat) (σ : ed_S) : State → Prop := MQ below (va_Qr (fun (u : ed_S) => u = σ) (fun (u : ed_S) (a : Nat) (t : State) => a = pp r ∧ ed_bh D ca w A u t) A) args s 0 0 A
/-- a method's start -/
def ed_pc (D : va_G) (ca : Nat → ClassId) (w : ed_S → va_W) (av : List Value) (σ : ed_S) (sz : Nat) : Array Value → State → Prop := va_Pc av (fun U => U.heap.size = sz ∧ va_P D vwCl (w σ) U.heap ∧ va_K D vwCl (ed_ty ca) U ∧ va_D (fun _ => True) (w σ) ∧ va_Nw ed_n1 U)
def ed_MI (l : Launch) (y : MethodName) (ws : List Cond) (rm : Room) (D : va_G) (ca : Nat → ClassId) (w : ed_S → va_W) (av : List Value) (σ : ed_S) (r : Int32) (σ2 : ed_S) : Prop := ∀ sz : Nat, Met l y ws rm (ed_pc D ca w av σ sz) (va_Qi (fun (r2 : Int32) (u : ed_S) => r2 = r ∧ u = σ2) (ed_bh D ca w (va_A (w σ) sz)) (va_A (w σ) sz)) 0 0 (va_A (w σ) sz)
def ed_MV (l : Launch) (y : MethodName) (ws : List Cond) (rm : Room) (D : va_G) (ca : Nat → ClassId) (w : ed_S → va_W) (av : List Value) (σ : ed_S) (σ2 : ed_S) : Prop := ∀ sz : Nat, Met l y ws rm (ed_pc D ca w av σ sz) (va_Qv (fun (u : ed_S) => u = σ2) (ed_bh D ca w (va_A (w σ) sz)) (va_A (w σ) sz)) 0 0 (va_A (w σ) sz)
def ed_MR (pp : Nat → Nat) (l : Launch) (y : MethodName) (ws : List Cond) (rm : Room) (D : va_G) (ca : Nat → ClassId) (w : ed_S → va_W) (av : List Value) (σ : ed_S) (r : Nat) (σ2 : ed_S) : Prop := ∀ sz : Nat, Met l y ws rm (ed_pc D ca w av σ sz) (va_Qr (fun (u : ed_S) => u = σ2) (fun (u : ed_S) (a : Nat) (t : State) => a = pp r ∧ ed_bh D ca w (va_A (w σ) sz) u t) (va_A (w σ) sz)) 0 0 (va_A (w σ) sz)
section EDM
variable {l : Launch} {y : MethodName} {ws : List Cond} {rm : Room} {D : va_G} {ca : Nat → ClassId} {w : ed_S → va_W} {av : List Value} {σ σ2 : ed_S} {cc : ByteArray} {own : String} {nL : Nat} {ret : Option FieldType}
theorem ed_met {Qc : Nat → (Nat → Prop) → Array Value → State → Outcome → State → Prop} (hy : plainName y.cls = true) (hw : ws = Cond.code y cc nL ret :: ed_tb) (hown : y.cls = own) (hlen : (lg_sl av).length ≤ nL)
    (body : ∀ (p : Program) (e : Env) (s : State) (m : MethodId) (args : Array Value) (below : List Frame) (meth : Method) (c : Code) (A : Nat → Prop), ed_B p s m args meth c cc own nL D ca → meth.sig.returnType = ret → (∀ q : Nat, s.heap.size ≤ q → A q) → ed_G p l e rm s m args below meth c D ca w A (MQ below (Qc s.heap.size A) args s 0 0 A) nL 0 (lv_args 0 av) [] σ) (sz : Nat) : Met l y ws rm (ed_pc D ca w av σ sz) (Qc sz (va_A (w σ) sz)) 0 0 (va_A (w σ) sz) := by
  refine Met.ofW (cc := cc) (maxL := nL) (ret := ret) hy hw ?_
  intro p e s m args below meth c s₁ Bd hml hv
  obtain ⟨rfl, hsz, hP, hK, hD0, hN⟩ := hv
  have hts := atoms_spec (ws := ws) Bd.pre
  have hts2 : ∀ w ∈ ed_tb, w.before av.toArray s = true := fun w h => hts w (by rw [hw]; exact List.mem_cons_of_mem _ h)
  have ho : s.vm.findClass own = some m.cls := by rw [← hown]; exact findClass_of_methodNamed Bd.named
  subst hsz
  rw [lg_entry_eq]
  exact body p e s m av.toArray below meth c _ ⟨Bd.exec, Bd.bytes, hml, ho, hts2, hK, Bd.notSynchronized, hN⟩ Bd.returns (fun q h => Or.inr h) s.heap [] _ hP hD0.self va_S.rf (lv_entry av hlen)
theorem ed_metI {r : Int32} (hy : plainName y.cls = true) (hw : ws = Cond.code y cc nL ret :: ed_tb) (hown : y.cls = own) (hlen : (lg_sl av).length ≤ nL)
    (body : ∀ (p : Program) (e : Env) (s : State) (m : MethodId) (args : Array Value) (below : List Frame) (meth : Method) (c : Code) (A : Nat → Prop), ed_B p s m args meth c cc own nL D ca → meth.sig.returnType = ret → (∀ q : Nat, s.heap.size ≤ q → A q) → ed_G p l e rm s m args below meth c D ca w A (ed_QI D ca w A below args s r σ2) nL 0 (lv_args 0 av) [] σ) : ed_MI l y ws rm D ca w av σ r σ2 := fun sz => ed_met (Qc := fun _ A => va_Qi (fun (r2 : Int32) (u : ed_S) => r2 = r ∧ u = σ2) (ed_bh D ca w A) A) hy hw hown hlen body sz
theorem ed_metV (hy : plainName y.cls = true) (hw : ws = Cond.code y cc nL ret :: ed_tb) (hown : y.cls = own) (hlen : (lg_sl av).length ≤ nL)
    (body : ∀ (p : Program) (e : Env) (s : State) (m : MethodId) (args : Array Value) (below : List Frame) (meth : Method) (c : Code) (A : Nat → Prop), ed_B p s m args meth c cc own nL D ca → meth.sig.returnType = ret → (∀ q : Nat, s.heap.size ≤ q → A q) → ed_G p l e rm s m args below meth c D ca w A (ed_QV D ca w A below args s σ2) nL 0 (lv_args 0 av) [] σ) : ed_MV l y ws rm D ca w av σ σ2 := fun sz => ed_met (Qc := fun _ A => va_Qv (fun (u : ed_S) => u = σ2) (ed_bh D ca w A) A) hy hw hown hlen body sz
theorem ed_metR {pp : Nat → Nat} {r : Nat} (hy : plainName y.cls = true) (hw : ws = Cond.code y cc nL ret :: ed_tb) (hown : y.cls = own) (hlen : (lg_sl av).length ≤ nL)
    (body : ∀ (p : Program) (e : Env) (s : State) (m : MethodId) (args : Array Value) (below : List Frame) (meth : Method) (c : Code) (A : Nat → Prop), ed_B p s m args meth c cc own nL D ca → meth.sig.returnType = ret → (∀ q : Nat, s.heap.size ≤ q → A q) → ed_G p l e rm s m args below meth c D ca w A (ed_QR pp D ca w A below args s r σ2) nL 0 (lv_args 0 av) [] σ) : ed_MR pp l y ws rm D ca w av σ r σ2 := fun sz => ed_met (Qc := fun _ A => va_Qr (fun (u : ed_S) => u = σ2) (fun (u : ed_S) (a : Nat) (t : State) => a = pp r ∧ ed_bh D ca w A u t) A) hy hw hown hlen body sz
end EDM
section EDR
variable {p : Program} {l : Launch} {e : Env} {R : Room} {s : State} {m : MethodId} {args : Array Value} {below : List Frame} {meth : Method} {c : Code} {H : Heap} {locs : List Loc} {cells slots : Nat} {Q : State → Prop}
variable {cc : ByteArray} {pc index nL : Nat} {ls : Array Slot} {rest : List Value} {D : va_G} {ca : Nat → ClassId} {w : ed_S → va_W} {A : Nat → Prop} {σ σ2 : ed_S} {own : String}
theorem ed_rI {v r : Int32} (B : ed_B p s m args meth c cc own nL D ca) (hr : meth.sig.returnType = some .int) (_hA : ∀ q : Nat, s.heap.size ≤ q → A q) (hP : va_P D vwCl (w σ) H) (hD : va_D A (w σ)) (hS : va_S A s.heap H locs) (eq : v = r ∧ σ = σ2) (hdg : decode cc pc = .ok (.ireturn, 1)) : W p l e R s m args below meth c H locs 0 0 (ed_QI D ca w A below args s r σ2) (F0 m pc ls [.int v]) := by
  obtain ⟨rfl, rfl⟩ := eq
  exact W.iret (v := v) B.1 B.2.1 hr (fun t ht hW => ⟨⟨v, σ, rfl, ⟨rfl, rfl⟩, by rw [ht]; exact hP, va_K.moved hW.alike B.2.2.2.2.2.1, hD⟩, hS.F ht⟩) hS.2.2 hdg B.2.2.2.2.2.2.1
theorem ed_rZ {v r : Int32} (B : ed_B p s m args meth c cc own nL D ca) (hr : meth.sig.returnType = some .boolean) (_hA : ∀ q : Nat, s.heap.size ≤ q → A q) (hP : va_P D vwCl (w σ) H) (hD : va_D A (w σ)) (hS : va_S A s.heap H locs) (z : v = 0 ∨ v = 1) (eq : v = r ∧ σ = σ2) (hdg : decode cc pc = .ok (.ireturn, 1)) : W p l e R s m args below meth c H locs 0 0 (ed_QI D ca w A below args s r σ2) (F0 m pc ls [.int v]) := by
  obtain ⟨rfl, rfl⟩ := eq
  exact W.zret (v := v) B.1 B.2.1 hr (by rcases z with rfl | rfl <;> rfl) (fun t ht hW => ⟨⟨v, σ, rfl, ⟨rfl, rfl⟩, by rw [ht]; exact hP, va_K.moved hW.alike B.2.2.2.2.2.1, hD⟩, hS.F ht⟩) hS.2.2 hdg B.2.2.2.2.2.2.1
theorem ed_rV (B : ed_B p s m args meth c cc own nL D ca) (hr : meth.sig.returnType = none) (_hA : ∀ q : Nat, s.heap.size ≤ q → A q) (hP : va_P D vwCl (w σ) H) (hD : va_D A (w σ)) (hS : va_S A s.heap H locs) (eq : σ = σ2) (hdg : decode cc pc = .ok (.return_, 1)) : W p l e R s m args below meth c H locs 0 0 (ed_QV D ca w A below args s σ2) (F0 m pc ls []) := by
  subst eq
  exact W.vret B.1 B.2.1 hr (fun t ht hW => ⟨⟨σ, rfl, rfl, by rw [ht]; exact hP, va_K.moved hW.alike B.2.2.2.2.2.1, hD⟩, hS.F ht⟩) hS.2.2 hdg B.2.2.2.2.2.2.1
theorem ed_rR {pp : Nat → Nat} {v r : Nat} {C : String} (B : ed_B p s m args meth c cc own nL D ca) (hr : meth.sig.returnType = some (.object C)) (_hA : ∀ q : Nat, s.heap.size ≤ q → A q) (hP : va_P D vwCl (w σ) H) (hD : va_D A (w σ)) (hS : va_S A s.heap H locs) (eq : v = r ∧ σ = σ2) (hdg : decode cc pc = .ok (.areturn, 1)) : W p l e R s m args below meth c H locs 0 0 (ed_QR pp D ca w A below args s r σ2) (F0 m pc ls [.ref (pp v)]) := by
  obtain ⟨rfl, rfl⟩ := eq
  exact W.aret (v := .ref (pp v)) B.1 B.2.1 hr (Or.inl ⟨_, rfl⟩) (Or.inr ⟨_, rfl⟩) (fun t ht hW => ⟨⟨σ, pp v, rfl, rfl, rfl, by rw [ht]; exact hP, va_K.moved hW.alike B.2.2.2.2.2.1, hD⟩, hS.F ht⟩) hS.2.2 hdg B.2.2.2.2.2.2.1
theorem ed_blind {av : List Value} {sz : Nat} : FrameBlind (ed_pc D ca w av σ sz) := fun a U g mk q => by
  obtain ⟨q0, q1, qP, qK, qD, qN⟩ := q
  exact ⟨q0, q1, qP, va_K.moved (u := U) (U := U.calling g mk a) (Vm.Alike.refl U.vm) qK, qD, va_Nw.same rfl rfl qN⟩
theorem ed_pre {av : List Value} (B : ed_B p s m args meth c cc own nL D ca) (hP : va_P D vwCl (w σ) H) (hD : va_D A (w σ)) : ∀ U : State, U.heap = H → s.WarmedH U.vm → ed_pc D ca w av σ H.size av.toArray U := fun U hU hW => ⟨rfl, by rw [hU], by rw [hU]; exact hP, va_K.moved hW.alike B.2.2.2.2.2.1, hD.weaken (fun _ _ _ _ => trivial), va_Nw.warmM hW B.2.2.2.2.2.2.2⟩
theorem ed_fr (hD : va_D A (w σ)) (hS : va_S A s.heap H locs) (hA : ∀ q : Nat, s.heap.size ≤ q → A q) : ∀ q, va_A (w σ) H.size q → A q := by
  intro q h
  rcases h with ⟨k, z, h⟩ | h
  · exact hD.2 k _ h
  · exact hA q (Nat.le_trans hS.1 h)
theorem ed_goI {r : Int32} {pcs : Nat} {st0 : List Value} {a : Array Value} (hr : va_Run p l e R s m args below meth c H locs 0 0 0 0 (F0 m pc ls st0) rest (va_Qi (fun (r2 : Int32) (u : ed_S) => r2 = r ∧ u = σ2) (ed_bh D ca w (va_A (w σ) H.size)) (va_A (w σ) H.size) a) (va_A (w σ) H.size)) (hD : va_D A (w σ)) (hS : va_S A s.heap H locs) (hA : ∀ q : Nat, s.heap.size ≤ q → A q) (hpc : pc + 3 = pcs)
    (kk : ∀ (H1 : Heap) (locs1 : List Loc), va_P D vwCl (w σ2) H1 → va_D A (w σ2) → va_S A s.heap H1 locs1 → W p l e R s m args below meth c H1 locs1 0 0 Q (F0 m pcs ls (.int r :: rest))) : W p l e R s m args below meth c H locs 0 0 Q (F0 m pc ls st0) := by
  subst hpc
  have hF := ed_fr hD hS hA
  refine va_calli hr hS (fun q _ h => hF q h) hF (fun r1 u t H1 locs1 ht hvm hw hB hz1 hk1 hS1 => ?_)
  obtain ⟨rfl, rfl⟩ := hw
  obtain ⟨hP1, hK1, hD1⟩ := hB
  rw [ht] at hP1
  exact kk H1 locs1 hP1 (hD1.weaken (fun k q _ h => hF q.1 h)) hS1
theorem ed_goV {pcs : Nat} {st0 : List Value} {a : Array Value} (hr : va_Run p l e R s m args below meth c H locs 0 0 0 0 (F0 m pc ls st0) rest (va_Qv (fun (u : ed_S) => u = σ2) (ed_bh D ca w (va_A (w σ) H.size)) (va_A (w σ) H.size) a) (va_A (w σ) H.size)) (hD : va_D A (w σ)) (hS : va_S A s.heap H locs) (hA : ∀ q : Nat, s.heap.size ≤ q → A q) (hpc : pc + 3 = pcs)
    (kk : ∀ (H1 : Heap) (locs1 : List Loc), va_P D vwCl (w σ2) H1 → va_D A (w σ2) → va_S A s.heap H1 locs1 → W p l e R s m args below meth c H1 locs1 0 0 Q (F0 m pcs ls rest)) : W p l e R s m args below meth c H locs 0 0 Q (F0 m pc ls st0) := by
  subst hpc
  have hF := ed_fr hD hS hA
  refine va_callv hr hS (fun q _ h => hF q h) hF (fun u t H1 locs1 ht hvm hw hB hz1 hk1 hS1 => ?_)
  subst hw
  obtain ⟨hP1, hK1, hD1⟩ := hB
  rw [ht] at hP1
  exact kk H1 locs1 hP1 (hD1.weaken (fun k q _ h => hF q.1 h)) hS1
theorem ed_goR {pp : Nat → Nat} {r : Nat} {pcs : Nat} {st0 : List Value} {a : Array Value} (hr : va_Run p l e R s m args below meth c H locs 0 0 0 0 (F0 m pc ls st0) rest (va_Qr (fun (u : ed_S) => u = σ2) (fun (u : ed_S) (a : Nat) (t : State) => a = pp r ∧ ed_bh D ca w (va_A (w σ) H.size) u t) (va_A (w σ) H.size) a) (va_A (w σ) H.size)) (hD : va_D A (w σ)) (hS : va_S A s.heap H locs) (hA : ∀ q : Nat, s.heap.size ≤ q → A q) (hpc : pc + 3 = pcs)
    (kk : ∀ (H1 : Heap) (locs1 : List Loc), va_P D vwCl (w σ2) H1 → va_D A (w σ2) → va_S A s.heap H1 locs1 → W p l e R s m args below meth c H1 locs1 0 0 Q (F0 m pcs ls (.ref (pp r) :: rest))) : W p l e R s m args below meth c H locs 0 0 Q (F0 m pc ls st0) := by
  subst hpc
  have hF := ed_fr hD hS hA
  refine va_callr hr hS (fun q _ h => hF q h) hF (fun u ra t H1 locs1 ht hvm hw hB hz1 hk1 hS1 => ?_)
  subst hw
  obtain ⟨rfl, hP1, hK1, hD1⟩ := hB
  rw [ht] at hP1
  exact kk H1 locs1 hP1 (hD1.weaken (fun k q _ h => hF q.1 h)) hS1
theorem ed_lB {y : MethodName} {bytes : ByteArray} {maxL n : Nat} {ret : Option FieldType} {rm : Room} (B : ed_B p s m args meth c cc own nL D ca) (me : ed_me y bytes maxL ret n) (hl : Cond.methodLink own index y ∈ ed_tb) (h0 : rm.cells = 0 ∧ rm.slots = 0) (hR : rm.frames + 1 ≤ R.frames ∧ 8 + (maxL + 11) + rm.locals ≤ R.locals) : CallB R s args own index y bytes maxL ret (Cond.code y bytes maxL ret :: ed_tb) rm 0 0 n :=
  callB_of n B.2.2.2.2.1 (ed_good me.1) rfl h0.1 h0.2 (B.2.2.2.2.1 _ me.2.1) (B.2.2.2.2.1 _ hl) me.2.2 hR
theorem ed_cvI {y : MethodName} {bytes : ByteArray} {maxL n : Nat} {ret : Option FieldType} {rm : Room} {As : List Value} {b : Nat} {r : Int32} {st0 : List Value} (B : ed_B p s m args meth c cc own nL D ca) (hP : va_P D vwCl (w σ) H) (hD : va_D A (w σ)) (hS : va_S A s.heap H locs) (hA : ∀ q : Nat, s.heap.size ≤ q → A q) (hM : ed_MI l y (Cond.code y bytes maxL ret :: ed_tb) rm D ca w (.ref b :: As) σ r σ2) (me : ed_me y bytes maxL ret n) (mv : ed_mv y) (hl : Cond.methodLink own index y ∈ ed_tb) (hrc : ∃ cell : Cell, H[b]? = some cell ∧ cell.vm.isStatics = false ∧ s.vm.findClass y.cls = some cell.cls) (h0 : rm.cells = 0 ∧ rm.slots = 0) (hR : rm.frames + 1 ≤ R.frames ∧ 8 + (maxL + 11) + rm.locals ≤ R.locals) (hn : As.length = n) (hst : st0 = As.reverse ++ .ref b :: rest) (hsz : ls.size = nL) (hW : 2 * (F0 m pc ls st0).monitorRoom + (rest.map fun v => v.category).sum ≤ 8) (hdg : decode cc pc = .ok (.invokevirtual index, 3))
    (kk : ∀ (H1 : Heap) (locs1 : List Loc), va_P D vwCl (w σ2) H1 → va_D A (w σ2) → va_S A s.heap H1 locs1 → W p l e R s m args below meth c H1 locs1 0 0 Q (F0 m (pc + 3) ls (.int r :: rest))) : W p l e R s m args below meth c H locs 0 0 Q (F0 m pc ls st0) :=
  ed_goI (va_runV ⟨B.1, B.2.1, B.2.2.1, B.2.2.2.1, B.2.2.2.2.1⟩ (hM H.size) ⟨ed_lB B me hl h0 hR, B.2.2.2.2.1 _ mv.1, B.2.2.2.2.1 _ mv.2⟩ ⟨ed_blind, hrc, ed_pre B hP hD⟩ rfl hn hsz hst hW hdg ⟨Nat.zero_le _, Nat.zero_le _⟩) hD hS hA rfl kk
theorem ed_cvV {y : MethodName} {bytes : ByteArray} {maxL n : Nat} {ret : Option FieldType} {rm : Room} {As : List Value} {b : Nat} {st0 : List Value} (B : ed_B p s m args meth c cc own nL D ca) (hP : va_P D vwCl (w σ) H) (hD : va_D A (w σ)) (hS : va_S A s.heap H locs) (hA : ∀ q : Nat, s.heap.size ≤ q → A q) (hM : ed_MV l y (Cond.code y bytes maxL ret :: ed_tb) rm D ca w (.ref b :: As) σ σ2) (me : ed_me y bytes maxL ret n) (mv : ed_mv y) (hl : Cond.methodLink own index y ∈ ed_tb) (hrc : ∃ cell : Cell, H[b]? = some cell ∧ cell.vm.isStatics = false ∧ s.vm.findClass y.cls = some cell.cls) (h0 : rm.cells = 0 ∧ rm.slots = 0) (hR : rm.frames + 1 ≤ R.frames ∧ 8 + (maxL + 11) + rm.locals ≤ R.locals) (hn : As.length = n) (hst : st0 = As.reverse ++ .ref b :: rest) (hsz : ls.size = nL) (hW : 2 * (F0 m pc ls st0).monitorRoom + (rest.map fun v => v.category).sum ≤ 8) (hdg : decode cc pc = .ok (.invokevirtual index, 3))
    (kk : ∀ (H1 : Heap) (locs1 : List Loc), va_P D vwCl (w σ2) H1 → va_D A (w σ2) → va_S A s.heap H1 locs1 → W p l e R s m args below meth c H1 locs1 0 0 Q (F0 m (pc + 3) ls rest)) : W p l e R s m args below meth c H locs 0 0 Q (F0 m pc ls st0) :=
  ed_goV (va_runV ⟨B.1, B.2.1, B.2.2.1, B.2.2.2.1, B.2.2.2.2.1⟩ (hM H.size) ⟨ed_lB B me hl h0 hR, B.2.2.2.2.1 _ mv.1, B.2.2.2.2.1 _ mv.2⟩ ⟨ed_blind, hrc, ed_pre B hP hD⟩ rfl hn hsz hst hW hdg ⟨Nat.zero_le _, Nat.zero_le _⟩) hD hS hA rfl kk
theorem ed_cvR {pp : Nat → Nat} {y : MethodName} {bytes : ByteArray} {maxL n : Nat} {ret : Option FieldType} {rm : Room} {As : List Value} {b : Nat} {r : Nat} {st0 : List Value} (B : ed_B p s m args meth c cc own nL D ca) (hP : va_P D vwCl (w σ) H) (hD : va_D A (w σ)) (hS : va_S A s.heap H locs) (hA : ∀ q : Nat, s.heap.size ≤ q → A q) (hM : ed_MR pp l y (Cond.code y bytes maxL ret :: ed_tb) rm D ca w (.ref b :: As) σ r σ2) (me : ed_me y bytes maxL ret n) (mv : ed_mv y) (hl : Cond.methodLink own index y ∈ ed_tb) (hrc : ∃ cell : Cell, H[b]? = some cell ∧ cell.vm.isStatics = false ∧ s.vm.findClass y.cls = some cell.cls) (h0 : rm.cells = 0 ∧ rm.slots = 0) (hR : rm.frames + 1 ≤ R.frames ∧ 8 + (maxL + 11) + rm.locals ≤ R.locals) (hn : As.length = n) (hst : st0 = As.reverse ++ .ref b :: rest) (hsz : ls.size = nL) (hW : 2 * (F0 m pc ls st0).monitorRoom + (rest.map fun v => v.category).sum ≤ 8) (hdg : decode cc pc = .ok (.invokevirtual index, 3))
    (kk : ∀ (H1 : Heap) (locs1 : List Loc), va_P D vwCl (w σ2) H1 → va_D A (w σ2) → va_S A s.heap H1 locs1 → W p l e R s m args below meth c H1 locs1 0 0 Q (F0 m (pc + 3) ls (.ref (pp r) :: rest))) : W p l e R s m args below meth c H locs 0 0 Q (F0 m pc ls st0) :=
  ed_goR (va_runV ⟨B.1, B.2.1, B.2.2.1, B.2.2.2.1, B.2.2.2.2.1⟩ (hM H.size) ⟨ed_lB B me hl h0 hR, B.2.2.2.2.1 _ mv.1, B.2.2.2.2.1 _ mv.2⟩ ⟨ed_blind, hrc, ed_pre B hP hD⟩ rfl hn hsz hst hW hdg ⟨Nat.zero_le _, Nat.zero_le _⟩) hD hS hA rfl kk
theorem ed_csI {y : MethodName} {bytes : ByteArray} {maxL n : Nat} {ret : Option FieldType} {rm : Room} {As : List Value} {r : Int32} {st0 : List Value} (B : ed_B p s m args meth c cc own nL D ca) (hP : va_P D vwCl (w σ) H) (hD : va_D A (w σ)) (hS : va_S A s.heap H locs) (hA : ∀ q : Nat, s.heap.size ≤ q → A q) (hM : ed_MI l y (Cond.code y bytes maxL ret :: ed_tb) rm D ca w As σ r σ2) (me : ed_me y bytes maxL ret n) (mv : Cond.static y ∈ ed_tb) (hl : Cond.methodLink own index y ∈ ed_tb) (h0 : rm.cells = 0 ∧ rm.slots = 0) (hR : rm.frames + 1 ≤ R.frames ∧ 8 + (maxL + 11) + rm.locals ≤ R.locals) (hn : As.length = n) (hst : st0 = As.reverse ++ rest) (hsz : ls.size = nL) (hW : 2 * (F0 m pc ls st0).monitorRoom + (rest.map fun v => v.category).sum ≤ 8) (hdg : decode cc pc = .ok (.invokestatic index, 3))
    (kk : ∀ (H1 : Heap) (locs1 : List Loc), va_P D vwCl (w σ2) H1 → va_D A (w σ2) → va_S A s.heap H1 locs1 → W p l e R s m args below meth c H1 locs1 0 0 Q (F0 m (pc + 3) ls (.int r :: rest))) : W p l e R s m args below meth c H locs 0 0 Q (F0 m pc ls st0) :=
  ed_goI (va_runS ⟨B.1, B.2.1, B.2.2.1, B.2.2.2.1, B.2.2.2.2.1⟩ (hM H.size) ⟨ed_lB B me hl h0 hR, B.2.2.2.2.1 _ mv⟩ ⟨ed_blind, ed_pre B hP hD⟩ rfl hn hsz hst hW hdg ⟨Nat.zero_le _, Nat.zero_le _⟩) hD hS hA rfl kk
theorem ed_cnI {y : MethodName} {host : String} {bytes : ByteArray} {maxL n : Nat} {ret : Option FieldType} {rm : Room} {As : List Value} {r : Int32} {st0 : List Value} (B : ed_B p s m args meth c cc own nL D ca) (hP : va_P D vwCl (w σ) H) (hD : va_D A (w σ)) (hS : va_S A s.heap H locs) (hA : ∀ q : Nat, s.heap.size ≤ q → A q) (hM : ed_MI l y (Cond.code y bytes maxL ret :: ed_tb) rm D ca w As σ r σ2) (me : ed_me y bytes maxL ret n) (mv : Cond.static y ∈ ed_tb) (hl : ed_n1 = Cond.methodLinkNest own index y host) (h0 : rm.cells = 0 ∧ rm.slots = 0) (hR : rm.frames + 1 ≤ R.frames ∧ 8 + (maxL + 11) + rm.locals ≤ R.locals) (hn : As.length = n) (hst : st0 = As.reverse ++ rest) (hsz : ls.size = nL) (hW : 2 * (F0 m pc ls st0).monitorRoom + (rest.map fun v => v.category).sum ≤ 8) (hdg : decode cc pc = .ok (.invokestatic index, 3))
    (kk : ∀ (H1 : Heap) (locs1 : List Loc), va_P D vwCl (w σ2) H1 → va_D A (w σ2) → va_S A s.heap H1 locs1 → W p l e R s m args below meth c H1 locs1 0 0 Q (F0 m (pc + 3) ls (.int r :: rest))) : W p l e R s m args below meth c H locs 0 0 Q (F0 m pc ls st0) :=
  ed_goI (va_runSN (host := host) ⟨B.1, B.2.1, B.2.2.1, B.2.2.2.1, B.2.2.2.2.1⟩ (hM H.size) ⟨va_cnB n B.2.2.2.2.1 (ed_good me.1) rfl h0.1 h0.2 (hl ▸ B.2.2.2.2.2.2.2) (B.2.2.2.2.1 _ me.2.1) me.2.2 hR, B.2.2.2.2.1 _ mv, trivial⟩ ⟨ed_blind, ed_pre B hP hD⟩ rfl hn hsz hst hW hdg ⟨Nat.zero_le _, Nat.zero_le _⟩) hD hS hA rfl kk
theorem ed_min {x y : Int32} (B : ed_B p s m args meth c cc own nL D ca) (hsz : ls.size = nL) (hl : Cond.methodLink own index Lib.Math.min.name ∈ ed_tb) (hf : 1 ≤ R.frames) (hlo : (rest.map fun v => v.category).sum + 13 ≤ R.locals) (hdg : decode cc pc = .ok (.invokestatic index, 3))
    (kk : W p l e R s m args below meth c H locs 0 0 Q (F0 m (pc + 3) ls (.int (if y < x then y else x) :: rest))) : W p l e R s m args below meth c H locs 0 0 Q (F0 m pc ls (.int y :: .int x :: rest)) :=
  va_mmin B.1 B.2.1 (by rw [B.2.2.1, hsz]) B.2.2.2.1 (B.2.2.2.2.1 _ hl) (B.2.2.2.2.1 _ ed_min_s) (B.2.2.2.2.1 _ ed_min_i) (B.2.2.2.2.1 _ ed_min_c) hf hlo (Nat.zero_le _) (Nat.zero_le _) hdg kk
end EDR
