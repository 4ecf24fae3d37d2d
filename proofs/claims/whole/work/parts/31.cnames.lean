theorem ed_oi : Cond.instanceMethod objectInit ∈ ed_tb := ed_in (i := 17) (by decide +kernel) rfl
theorem ed_oc : Cond.code objectInit ⟨#[0xb1]⟩ 1 none ∈ ed_tb := ed_in (i := 18) (by decide +kernel) rfl
theorem cl_Law_7 : Cond.classLink "ExecutiveDeskLaw" 7 "ExecutiveDesk" ∈ ed_tb := ed_in (i := 11) (by decide +kernel) rfl
theorem in_Desk : Cond.instantiable "ExecutiveDesk" 12 ∈ ed_tb := ed_in (i := 12) (by decide +kernel) rfl
theorem cl_Desk_9 : Cond.classLink "ExecutiveDesk" 9 "ExecutiveDesk$ProcessState" ∈ ed_tb := ed_in (i := 19) (by decide +kernel) rfl
theorem cl_Desk_15 : Cond.classLink "ExecutiveDesk" 15 "ExecutiveDesk$Scheduler" ∈ ed_tb := ed_in (i := 21) (by decide +kernel) rfl
theorem in_Sched : Cond.instantiable "ExecutiveDesk$Scheduler" 5 ∈ ed_tb := ed_in (i := 22) (by decide +kernel) rfl
theorem cl_Sched_9 : Cond.classLink "ExecutiveDesk$Scheduler" 9 "ExecutiveDesk$ThreadState" ∈ ed_tb := ed_in (i := 27) (by decide +kernel) rfl
theorem cl_Sched_17 : Cond.classLink "ExecutiveDesk$Scheduler" 17 "ExecutiveDesk$Row" ∈ ed_tb := ed_in (i := 29) (by decide +kernel) rfl
theorem in_Thr : Cond.instantiable "ExecutiveDesk$ThreadState" 12 ∈ ed_tb := ed_in (i := 31) (by decide +kernel) rfl
theorem cl_Thr_9 : Cond.classLink "ExecutiveDesk$ThreadState" 9 "ExecutiveDesk$Row" ∈ ed_tb := ed_in (i := 36) (by decide +kernel) rfl
theorem in_Row : Cond.instantiable "ExecutiveDesk$Row" 2 ∈ ed_tb := ed_in (i := 37) (by decide +kernel) rfl
theorem ed_a0 : Cond.arrayClass .int ∈ ed_tb := ed_in (i := 53) (by decide +kernel) rfl
theorem cl_Desk_27 : Cond.classLink "ExecutiveDesk" 27 "ExecutiveDesk$ObjectState" ∈ ed_tb := ed_in (i := 123) (by decide +kernel) rfl
theorem cl_Desk_33 : Cond.classLink "ExecutiveDesk" 33 "ExecutiveDesk$TransferState" ∈ ed_tb := ed_in (i := 125) (by decide +kernel) rfl
theorem cl_Desk_39 : Cond.classLink "ExecutiveDesk" 39 "ExecutiveDesk$Row" ∈ ed_tb := ed_in (i := 127) (by decide +kernel) rfl
theorem in_Proc : Cond.instantiable "ExecutiveDesk$ProcessState" 5 ∈ ed_tb := ed_in (i := 129) (by decide +kernel) rfl
theorem in_Obj : Cond.instantiable "ExecutiveDesk$ObjectState" 10 ∈ ed_tb := ed_in (i := 154) (by decide +kernel) rfl
theorem cl_Obj_9 : Cond.classLink "ExecutiveDesk$ObjectState" 9 "ExecutiveDesk$RuleList" ∈ ed_tb := ed_in (i := 159) (by decide +kernel) rfl
theorem in_Rul : Cond.instantiable "ExecutiveDesk$RuleList" 4 ∈ ed_tb := ed_in (i := 160) (by decide +kernel) rfl
theorem cl_Obj_18 : Cond.classLink "ExecutiveDesk$ObjectState" 18 "ExecutiveDesk$Row" ∈ ed_tb := ed_in (i := 180) (by decide +kernel) rfl
theorem in_Tra : Cond.instantiable "ExecutiveDesk$TransferState" 8 ∈ ed_tb := ed_in (i := 222) (by decide +kernel) rfl
theorem cl_Law_10 : Cond.classLink "ExecutiveDeskLaw" 10 "ExecutiveDeskModel" ∈ ed_tb := ed_in (i := 648) (by decide +kernel) rfl
theorem in_Mod : Cond.instantiable "ExecutiveDeskModel" 53 ∈ ed_tb := ed_in (i := 649) (by decide +kernel) rfl
theorem ed_a6 : Cond.arrayClass .boolean ∈ ed_tb := ed_in (i := 814) (by decide +kernel) rfl
theorem ii_Desk : Cond.initialized "ExecutiveDesk" ∈ ed_tb := ed_in (i := 1) (by decide +kernel) rfl
theorem im_Desk_init : Cond.instanceMethod y_Desk_init ∈ ed_tb := ed_in (i := 14) (by decide +kernel) rfl
theorem ii_Sched : Cond.initialized "ExecutiveDesk$Scheduler" ∈ ed_tb := ed_in (i := 2) (by decide +kernel) rfl
theorem im_Sched_init : Cond.instanceMethod y_Sched_init ∈ ed_tb := ed_in (i := 24) (by decide +kernel) rfl
theorem ii_Thr : Cond.initialized "ExecutiveDesk$ThreadState" ∈ ed_tb := ed_in (i := 3) (by decide +kernel) rfl
theorem im_Thr_init : Cond.instanceMethod y_Thr_init ∈ ed_tb := ed_in (i := 33) (by decide +kernel) rfl
theorem ii_Row : Cond.initialized "ExecutiveDesk$Row" ∈ ed_tb := ed_in (i := 4) (by decide +kernel) rfl
theorem im_Row_init : Cond.instanceMethod y_Row_init ∈ ed_tb := ed_in (i := 39) (by decide +kernel) rfl
theorem ii_Proc : Cond.initialized "ExecutiveDesk$ProcessState" ∈ ed_tb := ed_in (i := 5) (by decide +kernel) rfl
theorem im_Proc_init : Cond.instanceMethod y_Proc_init ∈ ed_tb := ed_in (i := 131) (by decide +kernel) rfl
theorem ii_Obj : Cond.initialized "ExecutiveDesk$ObjectState" ∈ ed_tb := ed_in (i := 6) (by decide +kernel) rfl
theorem im_Obj_init : Cond.instanceMethod y_Obj_init ∈ ed_tb := ed_in (i := 156) (by decide +kernel) rfl
theorem ii_Rul : Cond.initialized "ExecutiveDesk$RuleList" ∈ ed_tb := ed_in (i := 7) (by decide +kernel) rfl
theorem im_Rul_init : Cond.instanceMethod y_Rul_init ∈ ed_tb := ed_in (i := 162) (by decide +kernel) rfl
theorem ii_Tra : Cond.initialized "ExecutiveDesk$TransferState" ∈ ed_tb := ed_in (i := 8) (by decide +kernel) rfl
theorem im_Tra_init : Cond.instanceMethod y_Tra_init ∈ ed_tb := ed_in (i := 224) (by decide +kernel) rfl
theorem ii_Mod : Cond.initialized "ExecutiveDeskModel" ∈ ed_tb := ed_in (i := 9) (by decide +kernel) rfl
theorem im_Mod_init : Cond.instanceMethod y_Mod_init ∈ ed_tb := ed_in (i := 651) (by decide +kernel) rfl
