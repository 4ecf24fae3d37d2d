/-! ===== the pure part: the first states; all calls ===== -/
theorem cn_no {n : Nat} {c : Nat → Bool} (h : ∀ j, j < n → c j = false) : cn_ n c = 0 := by
  induction n with
  | zero => rfl
  | succ n ih => rw [cn_s, ih (fun j hj => h j (by omega)), h n (by omega)]; rfl
theorem z0_hc {o : Nat} (ho : o < 16) : hc_ md_s0 (nI o) = 0 := cn_no (fun j hj => by
  have e : md_s0 3 0 j = -1 := if_pos hj
  rw [e]
  exact decide_eq_false (fun z => nI_m1 (show o < 2 ^ 31 by omega) z.symm))
theorem z0_pc (o : Int32) : pc_ md_s0 0 0 o = 0 := by
  have e : ∀ i, i < 8 → md_s0 31 0 i = -1 := fun i hi => if_pos hi
  have n : ¬ (-1 : Int32) = 0 := by decide
  unfold pc_
  rw [cn_no (n := 8) (c := pd_ md_s0 o) (fun j hj => by unfold pd_; rw [e j hj]; exact decide_eq_false (fun z => n z.1)), cn_no (n := 8) (c := ps_ md_s0 o) (fun j hj => by unfold ps_; rw [e j hj]; exact decide_eq_false (fun z => n z.1))]
  rfl
theorem z0_th {o : Nat} (ho : o < 16) : ¬ th_ md_s0 0 (fun _ => []) o := fun z => z ⟨z0_hc ho, z0_pc _⟩
theorem z0_M : gM ed_s0 md_s0 0 0 (fun _ => []) := by
  have n : ¬ (-1 : Int32) = 0 := by decide
  refine ⟨fun r hr => ⟨rfl, Nat.zero_le _, fun j v hj => by simp at hj⟩, ⟨by omega, by omega, rfl, rfl, rfl, rfl, rfl, rfl, rfl, Or.inl rfl, rfl, rfl, rfl⟩, fun t ht => by omega, fun t _ _ => ⟨rfl, rfl, rfl, rfl, rfl, rfl, rfl, rfl, rfl⟩, Or.inl ⟨rfl, fun t ht => by omega⟩, fun t ht => by omega, ⟨List.Pairwise.nil, fun t => ⟨fun z => absurd z List.not_mem_nil, fun z => by omega⟩, fun t ht => by omega, fun t ht => by omega⟩, ⟨fun p hp => ⟨List.Pairwise.nil, fun t => ⟨fun z => absurd z List.not_mem_nil, fun z => by omega⟩⟩, fun t ht => by omega⟩, fun i hi => ?_, fun o ho => ⟨List.Pairwise.nil, fun i => ⟨fun z => absurd z List.not_mem_nil, fun z => ?_⟩⟩, ⟨rfl, fun j v hj => by simp at hj⟩, fun p hp => ⟨rfl, rfl, rfl, fun h hh => ?_⟩, fun o ho => ?_, fun o ho => Or.inl rfl, fun o ho z => absurd z (z0_th ho)⟩
  · have e : md_s0 31 0 i = -1 := if_pos hi
    rw [e]
    exact ⟨rfl, rfl, rfl, rfl, rfl, rfl, rfl, rfl, Or.inl rfl, Or.inl rfl, Or.inl rfl, fun z => absurd z n⟩
  · have e : md_s0 31 0 i = -1 := if_pos z.1
    rw [e] at z
    exact absurd z.2.1 n
  · have e1 : ed_s0 41 p h = -1 := if_pos hh
    have e2 : md_s0 3 0 (8 * p + h) = -1 := if_pos (by omega)
    rw [e1, e2]
    exact ⟨rfl, rfl, Or.inl rfl⟩
  · show _ ∧ ed_s0 25 o 0 = nI (pc_ md_s0 0 0 (nI o))
    rw [z0_hc ho, z0_pc]
    exact ⟨rfl, rfl⟩
theorem z0_S : zS 0 ed_s0 md_s0 := by
  have n : ¬ (-1 : Int32) = 0 := by decide
  refine ⟨0, 0, fun _ => [], ⟨z0_M, ⟨by decide, by decide, by decide, by decide⟩, fun t ht => absurd ht List.not_mem_nil, ⟨fun i hi z => ?_, fun v hv => absurd hv List.not_mem_nil⟩, ⟨fun p hp => ⟨0, by omega, rfl⟩, fun k hk => ⟨Or.inl rfl, ⟨0, by omega, rfl⟩, ⟨0, by omega, rfl⟩⟩⟩, fun p hp => ⟨0, by omega, rfl, fun t ht => by omega⟩⟩, ⟨0, by omega, rfl⟩, fun o ho => ⟨⟨fun z => ?_, fun z => absurd z (z0_th ho)⟩, fun z => absurd z (z0_th ho)⟩, fun _ => ⟨⟨fun _ p hp => rfl, fun t p _ ht => by omega⟩, rfl, fun t ht => by omega⟩⟩
  · have e : md_s0 31 0 i = -1 := if_pos hi
    rw [e] at z
    exact absurd z n
  · have e : md_s0 19 0 o = 0 := rfl
    rw [e] at z
    exact absurd z (by decide)
theorem ed_sim : ed_Sim zS := ⟨z0_S, fun _ _ _ h => h.mo, c_process, c_thread, c_create, c_opn, c_clse, c_rule, c_sett, c_await, c_call, c_level, c_interrupt, c_transfer, c_cancel, c_exit, c_tick, c_actor, c_object, c_io, c_handle, c_count⟩
