/-! ===== the pure part: process, thread ===== -/
theorem ti_.ag {ρ ρ' : ed_S} {L' : List Nat} {T : Nat} {q : Nat → List Nat} (b : ag_ ρ ρ' L') (h2 : ∀ k ∈ [3, 7, 17, 19, 23, 31, 34, 36, 40], k ∉ L') (h : ti_ ρ T q) : ti_ ρ' T q := fun o ho => by
  have hhc : ∀ o, hc_ ρ' o = hc_ ρ o := fun o => hc_.ag b (h2 3 (by decide)) o
  have hpc : ∀ o, pc_ ρ' T (q 33).length o = pc_ ρ T (q 33).length o := fun o => pc_.ag b (fun k hk => h2 k (by revert hk; simp; omega)) (fun t _ => by rw [b.at 7 (h2 7 (by decide))]) o
  have hth : th_ ρ' T q o ↔ th_ ρ T q o := by unfold th_; rw [hhc, hpc]
  rw [hth, hhc, b.at 19 (h2 19 (by decide)), b.at 23 (h2 23 (by decide))]
  exact h o ho
theorem lk_.ag {ρ ρ' : ed_S} {L' : List Nat} {T : Nat} {q : Nat → List Nat} (b : ag_ ρ ρ' L') (h2 : ∀ k ∈ [6, 44], k ∉ L') (h : lk_ ρ T q) : lk_ ρ' T q := by
  unfold lk_ at *
  simp only [b.at 6 (h2 6 (by decide)), b.at 44 (h2 44 (by decide))]
  exact h
theorem na_.ag {ρ ρ' : ed_S} {L' : List Nat} {T : Nat} {q : Nat → List Nat} (b : ag_ ρ ρ' L') (h2 : ∀ k ∈ [7, 14], k ∉ L') (h : na_ ρ T q) : na_ ρ' T q := by
  unfold na_ at *
  simp only [b.at 7 (h2 7 (by decide)), b.at 14 (h2 14 (by decide))]
  exact h
theorem qu_.ag {ρ ρ' : ed_S} {L' : List Nat} {q q' : Nat → List Nat} (b : ag_ ρ ρ' L') (h2 : ∀ k ∈ [14, 17, 20, 22, 24, 25], k ∉ L') (hq : ∀ t, t ∈ q' 32 → t ∈ q 32) (h : qu_ ρ q) : qu_ ρ' q' := fun t ht w => h t (hq t ht) ((sat_.ag b h2).mp w)
theorem c_process (n : Nat) (x1 : Int32) (σ ρ : ed_S) (hn : n < 512) (hS : zS n σ ρ) : jt_ (zS (n + 1)) (F_Desk_process x1 σ) (F_Mod_process x1 ρ) := by
  have hS' := hS.mo
  obtain ⟨T, P, q, ⟨m, hb, hqu, hJ, hK, hL⟩, hC, ti, hl⟩ := hS
  obtain ⟨nQ, nA, nT, nU, nR, nC, nW, nD, nX, nV, nI', nP, nH, nO⟩ := m
  obtain ⟨a1, a2, a3, a4, a5, a6, a7, a8, a9, a10, a11, a12, a13⟩ := nA
  unfold F_Desk_process F_Mod_process
  rw [vB2_at (d_is _ _ _ _), vB2_at (m_is _ _ _ _), a3, a4]
  rcases iw_c (x := x1) (b := 255) (n := 256) (by decide) (by omega) with h | ⟨g, hg, rfl, h⟩
  · rw [if_pos h, if_pos h]
    exact jt_b rfl hS'
  · rw [if_neg h, if_neg h]
    refine jt_if Iff.rfl (fun _ => jt_b rfl hS') (fun c => ?_)
    have hP : P < 4 := by
      rcases Nat.lt_or_ge P 4 with z | z
      · exact z
      · exact absurd (show nI P = 4 by rw [show P = 4 by omega]; rfl) c
    rw [vG_at hP (by omega), vG_at hP (by omega)]
    simp only [vL]
    rw [ed_st_n (show ¬ (0 = 19 ∧ 0 = P ∧ 0 = 0) by omega), a3, ed_st_n (show ¬ (42 = 0 ∧ 0 = 0 ∧ 0 = P) by omega), a4, ed_st_s, nI_1]
    obtain ⟨σ', hσ'⟩ : ∃ z, z = ed_st (ed_st σ 19 P 0 (nI g)) 0 0 0 (nI (P + 1)) := ⟨_, rfl⟩
    obtain ⟨ρ', hρ'⟩ : ∃ z, z = ed_st (ed_st ρ 0 0 P (nI g)) 42 0 0 (nI (P + 1)) := ⟨_, rfl⟩
    rw [← hσ', ← hρ']
    have hA : ag_ σ σ' [0, 19] := by rw [hσ']; exact (ag_.rf.st (by decide)).st (by decide)
    have hB : ag_ ρ ρ' [0, 42] := by rw [hρ']; exact (ag_.rf.st (by decide)).st (by decide)
    have s0 : σ' 0 0 0 = nI (P + 1) := by rw [hσ', ed_st_s]
    have r42 : ρ' 42 0 0 = nI (P + 1) := by rw [hρ', ed_st_s]
    have s19 : ∀ p, σ' 19 p 0 = if p = P then nI g else σ 19 p 0 := fun p => by rw [hσ']; simp [ed_st]
    have r0 : ∀ p, ρ' 0 0 p = if p = P then nI g else ρ 0 0 p := fun p => by rw [hρ']; simp [ed_st]
    have hhc : ∀ o, hc_ ρ' o = hc_ ρ o := fun o => hc_.ag hB (by decide) o
    have hpc : ∀ o, pc_ ρ' T (q 33).length o = pc_ ρ T (q 33).length o := fun o => pc_.ag hB (by decide) (fun t _ => by rw [hB.at 7 (by decide)]) o
    refine jt_b (by rw [nI_pred]) ⟨T, P + 1, q, ⟨⟨nQ.ag hA (by decide), ?_, ?_, nU.ag hA hB (by decide) (by decide), nR.ag hB (by decide), nC.ag hB (by decide), nW.ag hA hB (by decide) (by decide), nD.ag hB (by decide), nX.ag hA hB (by decide) (by decide), nV.ag hB (by decide), nI'.ag hB (by decide), ?_, nH.ag hA (by decide) hhc hpc, nO.ag hA hB (by decide) (by decide) hhc hpc⟩, (hb.ag hB (by decide)).mo (by omega), hqu.ag hB (by decide) (fun _ z => z), hJ.ag hB (by decide) rfl, ?_, hL.ag hB (by decide)⟩, ?_, ti.ag hB (by decide), fun z => ?_⟩
    · refine ⟨by omega, a2, s0, r42, ?_, ?_, ?_, ?_, ?_, ?_, ?_, ?_, ?_⟩
      · rw [hA.at 1 (by decide)]; exact a5
      · rw [hB.at 43 (by decide)]; exact a6
      · rw [hA.at 2 (by decide), hB.at 50 (by decide)]; exact a7
      · rw [hA.at 3 (by decide), hB.at 46 (by decide)]; exact a8
      · rw [hA.at 4 (by decide), hB.at 47 (by decide)]; exact a9
      · rw [hB.at 47 (by decide)]; exact a10
      · rw [hA.at 5 (by decide), hB.at 44 (by decide)]; exact a11
      · rw [hA.at 6 (by decide), hB.at 45 (by decide)]; exact a12
      · rw [hA.at 7 (by decide), hB.at 49 (by decide)]; exact a13
    · intro t ht
      obtain ⟨b1, b2, b3, b4, b5, b6, b7, ⟨p, hp, b8⟩, b9⟩ := (nT.ag hA hB (by decide) (by decide)) t ht
      exact ⟨b1, b2, b3, b4, b5, b6, b7, ⟨p, by omega, b8⟩, b9⟩
    · intro p hp
      obtain ⟨b1, b2, b3, b4⟩ := nP p hp
      rw [s19, r0, b1, hA.at 20 (by decide), hA.at 21 (by decide), hB.at 2 (by decide), hB.at 1 (by decide)]
      refine ⟨rfl, b2, b3, ?_⟩
      unfold hd_ at *
      simp only [hA.at 41 (by decide), hA.at 42 (by decide), hB.at 3 (by decide), hB.at 4 (by decide)]
      exact b4
    · refine ⟨fun p hp => ?_, ?_⟩
      · rw [r0]
        by_cases c : p = P
        · rw [if_pos c]; exact ⟨g, hg, rfl⟩
        · rw [if_neg c]; exact hK.1 p hp
      · simp only [hB.at 28 (by decide), hB.at 29 (by decide), hB.at 30 (by decide)]
        exact hK.2
    · obtain ⟨C, h1, h2⟩ := hC
      exact ⟨C, by omega, by rw [hB.at 46 (by decide)]; exact h2⟩
    · rw [hB.at 47 (by decide)] at z
      obtain ⟨z1, z2, z3⟩ := hl z
      exact ⟨z1.ag hB (by decide), z2, z3.ag hB (by decide)⟩
/-- t gets ready: it is the last of its row -/
theorem gD.add {ρ ρ' : ed_S} {T T' t p : Nat} {q q' : Nat → List Nat} (h : gD ρ T q) (hT : T ≤ T') (ht : t < T') (hnew : ∀ u, u < T' → u ≠ t → u < T) (h1 : ¬ (t < T ∧ ρ 7 0 t = 1)) (hp : p < 8) (hpr : ρ' 6 0 t = nI p) (r6 : ∀ u, u ≠ t → ρ' 6 0 u = ρ 6 0 u) (r7 : ∀ u, u ≠ t → (ρ' 7 0 u = 1 ↔ ρ 7 0 u = 1)) (r7t : ρ' 7 0 t = 1) (r16 : ρ' 16 0 t = ρ 51 0 0 + 1) (r16n : ∀ u, u ≠ t → ρ' 16 0 u = ρ 16 0 u) (r51 : ρ' 51 0 0 = ρ 51 0 0 + 1) (r52 : ρ' 52 0 0 = ρ 52 0 0) (hw : nw_ ρ) (kp : q' (8 + p) = q (8 + p) ++ [t]) (kr : ∀ x, x < 8 → x ≠ p → q' (8 + x) = q (8 + x)) : gD ρ' T' q' := by
  have i51 := add1 hw.2.2.2
  have htq : ∀ y, y < 8 → t ∉ q (8 + y) := fun y hy z => by
    have := ((h.1 y hy).2 t).mp z
    exact h1 ⟨this.1, this.2.1⟩
  refine ⟨fun y hy => ⟨?_, fun u => ?_⟩, fun u hu h1' => ?_⟩
  · have keep : ∀ y, y < 8 → (q (8 + y)).Pairwise (fun a b => ρ' 16 0 a < ρ' 16 0 b) := fun y hy => by
      refine List.Pairwise.imp_of_mem ?_ (h.1 y hy).1
      intro a b ha hb z
      rw [r16n a (fun w => htq y hy (w ▸ ha)), r16n b (fun w => htq y hy (w ▸ hb))]
      exact z
    by_cases c : y = p
    · subst c
      rw [kp]
      refine List.pairwise_append.mpr ⟨keep y hy, List.pairwise_singleton _ _, fun a ha b hb => ?_⟩
      rw [List.mem_singleton.mp hb, r16, r16n a (fun w => htq y hy (w ▸ ha))]
      have hbr := ((h.1 y hy).2 a).mp ha
      have h5 := (h.2 a hbr.1 hbr.2.1).2
      rw [Int32.le_iff_toInt_le] at h5
      rw [Int32.lt_iff_toInt_lt, i51]
      omega
    · rw [kr y hy c]
      exact keep y hy
  · have hmem : u ∈ q' (8 + y) ↔ u ∈ q (8 + y) ∨ (y = p ∧ u = t) := by
      by_cases c : y = p
      · subst c
        rw [kp, List.mem_append, List.mem_singleton]
        exact ⟨fun z => z.imp id (fun w => ⟨rfl, w⟩), fun z => z.imp id (fun w => w.2)⟩
      · rw [kr y hy c]
        exact ⟨fun z => Or.inl z, fun z => z.resolve_right (fun w => c w.1)⟩
    rw [hmem, (h.1 y hy).2 u]
    by_cases c : u = t
    · subst c
      rw [hpr, r7t]
      constructor
      · rintro (z | z)
        · exact absurd ⟨z.1, z.2.1⟩ h1
        · exact ⟨ht, rfl, by rw [z.1]⟩
      · intro z
        exact Or.inr ⟨((nI_eq (by omega) (by omega)).mp z.2.2).symm, rfl⟩
    · rw [r6 u c, r7 u c]
      constructor
      · rintro (z | z)
        · exact ⟨by omega, z.2⟩
        · exact absurd z.2 c
      · intro z
        exact Or.inl ⟨hnew u z.1 c, z.2⟩
  · rw [r51, r52]
    by_cases c : u = t
    · subst c
      rw [r16]
      refine ⟨?_, le_rf _⟩
      rw [Int32.le_iff_toInt_le, i51]
      have h6 := hw.2.1
      have h7 := hw.2.2.1
      omega
    · rw [r16n u c]
      have h5 := h.2 u (hnew u hu c) ((r7 u c).mp h1')
      refine ⟨h5.1, le_tr h5.2 ?_⟩
      rw [Int32.le_iff_toInt_le, i51]
      omega
theorem rd_cap {ρ : ed_S} {T t p : Nat} {q : Nat → List Nat} (h : gD ρ T q) (hT : T ≤ 8) (ht : t < 8) (h1 : ¬ (t < T ∧ ρ 7 0 t = 1)) (hp : p < 8) : (q (8 + p)).length < ed_cap (8 + p) := by
  have htq : t ∉ q (8 + p) := fun z => by
    have := ((h.1 p hp).2 t).mp z
    exact h1 ⟨this.1, this.2.1⟩
  have h1 : (t :: q (8 + p)).length ≤ 8 := nd_len 8 _ (List.nodup_cons.mpr ⟨htq, pw_nd (h.1 p hp).1⟩) (fun y hy => by
    rcases List.mem_cons.mp hy with e | e
    · omega
    · have := (((h.1 p hp).2 y).mp e).1
      omega)
  simp only [List.length_cons] at h1
  have h2 : ed_cap (8 + p) = 8 := if_neg (by omega)
  omega
theorem c_thread (n : Nat) (x1 x2 : Int32) (σ ρ : ed_S) (hn : n < 512) (hS : zS n σ ρ) : jt_ (zS (n + 1)) (F_Desk_thread x1 x2 σ) (F_Mod_thread x1 x2 ρ) := by
  have hS' := hS.mo
  obtain ⟨T, P, q, ⟨m, hb, hqu, hJ, hK, hL⟩, hC, ti, hl⟩ := hS
  have m' := m
  obtain ⟨nQ, nA, nT, nU, nR, nC, nW, nD, nX, nV, nI', nP, nH, nO⟩ := m
  obtain ⟨a1, a2, a3, a4, a5, a6, a7, a8, a9, a10, a11, a12, a13⟩ := nA
  unfold F_Desk_thread F_Mod_thread
  rw [vB2_at (d_is _ _ _ _), vB2_at (m_is _ _ _ _), a3, a4]
  rcases iw_c (x := x1) (pred_i (show P ≤ 8 by omega)) (by omega) with h | ⟨p, hp, rfl, h⟩
  · rw [if_pos h, if_pos h]
    exact jt_b rfl hS'
  · rw [if_neg h, if_neg h]
    have hp4 : p < 4 := by omega
    obtain ⟨p1, p2, p3, p4⟩ := nP p hp4
    have e2 : F_Proc_hasEnded p σ = if ρ 2 0 p ≤ 0 then some (0, σ) else if ρ 1 0 p = 0 then some (1, σ) else some (0, σ) := by
      unfold F_Proc_hasEnded
      rw [p2, p3]
    simp only [vG_at hp4 (show 4 < 2 ^ 31 by omega)]
    rw [e2]
    -- the rest, where the process has not ended
    have key : jt_ (zS (n + 1)) (vB2 (F_Desk_isWithin x2 0 7 σ) fun r15 σ13 => (if r15 = 0 then (some ((-1), σ13)) else (if (σ13 1 0 0) = 8 then (some ((-2), σ13)) else (vL (ed_st σ13 1 0 0 ((σ13 1 0 0) + 1)) fun σ18 => (vL (ed_st σ18 20 p 0 ((σ18 20 p 0) + 1)) fun σ24 => (vL (ed_st σ24 21 p 0 ((σ24 21 p 0) + 1)) fun σ30 => (vG (σ13 1 0 0) 8 fun j32 => (vL (ed_st σ30 8 j32 0 (nI p)) fun σ36 => (vG (σ13 1 0 0) 8 fun j38 => (vL (ed_st σ36 9 j38 0 x2) fun σ42 => (vB1 (F_Sched_makeReady (σ13 1 0 0) σ42) fun σ44 => (vB1 (F_Desk_lookWhoRuns  σ44) fun σ46 => (some ((σ13 1 0 0), σ46))))))))))))) ) (F_Mod_thread_32 (nI p) x2 ρ) := by
      unfold F_Mod_thread_32
      rw [vB2_at (d_is _ _ _ _), vB2_at (m_is _ _ _ _), a5, a6]
      simp only [vG_at hp4 (show 4 < 2 ^ 31 by omega)]
      rcases iw_c (x := x2) (b := 7) (n := 8) (by decide) (by omega) with h | ⟨pr, hpr, rfl, h⟩
      · rw [if_pos h, if_pos h]
        exact jt_b rfl hS'
      · rw [if_neg h, if_neg h]
        refine jt_if Iff.rfl (fun _ => jt_b rfl hS') (fun c => ?_)
        have hT : T < 8 := by
          rcases Nat.lt_or_ge T 8 with z | z
          · exact z
          · exact absurd (show nI T = 8 by rw [show T = 8 by omega]; rfl) c
        simp only [vG_at hT (show 8 < 2 ^ 31 by omega), vL]
        rw [ed_st_n (show ¬ (20 = 1 ∧ p = 0 ∧ 0 = 0) by omega), p2, nI_1]
        rw [ed_st_n (show ¬ (21 = 20 ∧ p = p ∧ 0 = 0) by omega), ed_st_n (show ¬ (21 = 1 ∧ p = 0 ∧ 0 = 0) by omega), p3]
        rw [ed_st_n (show ¬ (2 = 13 ∧ 0 = 0 ∧ p = T) by omega), ed_st_n (show ¬ (2 = 8 ∧ 0 = 0 ∧ p = T) by omega), ed_st_n (show ¬ (2 = 6 ∧ 0 = 0 ∧ p = T) by omega), ed_st_n (show ¬ (2 = 5 ∧ 0 = 0 ∧ p = T) by omega), ed_st_n (show ¬ (2 = 43 ∧ 0 = 0 ∧ p = 0) by omega)]
        rw [ed_st_n (show ¬ (1 = 2 ∧ 0 = 0 ∧ p = p) by omega), ed_st_n (show ¬ (1 = 13 ∧ 0 = 0 ∧ p = T) by omega), ed_st_n (show ¬ (1 = 8 ∧ 0 = 0 ∧ p = T) by omega), ed_st_n (show ¬ (1 = 6 ∧ 0 = 0 ∧ p = T) by omega), ed_st_n (show ¬ (1 = 5 ∧ 0 = 0 ∧ p = T) by omega), ed_st_n (show ¬ (1 = 43 ∧ 0 = 0 ∧ p = 0) by omega)]
        obtain ⟨σ1, hσ1⟩ : ∃ z, z = ed_st (ed_st (ed_st (ed_st (ed_st σ 1 0 0 (nI (T + 1))) 20 p 0 (ρ 2 0 p + 1)) 21 p 0 (ρ 1 0 p + 1)) 8 T 0 (nI p)) 9 T 0 (nI pr) := ⟨_, rfl⟩
        obtain ⟨ρ1, hρ1⟩ : ∃ z, z = ed_st (ed_st (ed_st (ed_st (ed_st (ed_st (ed_st ρ 43 0 0 (nI (T + 1))) 5 0 T (nI p)) 6 0 T (nI pr)) 8 0 T (-10)) 13 0 T (-1)) 2 0 p (ρ 2 0 p + 1)) 1 0 p (ρ 1 0 p + 1) := ⟨_, rfl⟩
        rw [← hσ1, ← hρ1]
        have hA1 : ag_ σ σ1 [1, 8, 9, 10, 18, 20, 21, 39] := by rw [hσ1]; exact ((((ag_.rf.st (by decide)).st (by decide)).st (by decide)).st (by decide)).st (by decide)
        have hB1 : ag_ ρ ρ1 [1, 2, 5, 6, 7, 8, 13, 16, 43, 51] := by rw [hρ1]; exact ((((((ag_.rf.st (by decide)).st (by decide)).st (by decide)).st (by decide)).st (by decide)).st (by decide)).st (by decide)
        obtain ⟨σ2, hσ2⟩ : ∃ z, z = ed_st σ1 10 T 0 1 := ⟨_, rfl⟩
        have q2 : gQ σ2 q := fun r hr => by
          rw [hσ2, hσ1]
          exact ((((((nQ r hr).st (by decide) (by decide)).st (by decide) (by decide)).st (by decide) (by decide)).st (by decide) (by decide)).st (by decide) (by decide)).st (by decide) (by decide)
        have hnr : ¬ (T < T ∧ ρ 7 0 T = 1) := fun z => absurd z.1 (by omega)
        obtain ⟨σ', e5, f5, g5⟩ := row_addLast (x := T) (q2 (8 + pr) (by omega)) (rd_cap nD a2 hT hnr hpr)
        have hA : ag_ σ σ' [1, 8, 9, 10, 18, 20, 21, 39] := by
          refine ag_.fr ?_ f5 (by decide) (by decide)
          rw [hσ2]
          exact hA1.st (by decide)
        have s9 : σ2 9 T 0 = nI pr := by rw [hσ2, ed_st_n (by omega), hσ1, ed_st_s]
        have eC : F_Sched_makeReady (nI T) σ1 = some σ' := by
          unfold F_Sched_makeReady
          rw [vG_at hT (by omega)]
          simp only [vL]
          rw [vG_at hT (by omega), ← hσ2, s9, vG_at hpr (by omega), vB1_at e5]
        obtain ⟨ρ', hρ'⟩ : ∃ z, z = ed_st (ed_st (ed_st ρ1 7 0 T 1) 51 0 0 (ρ 51 0 0 + 1)) 16 0 T (ρ 51 0 0 + 1) := ⟨_, rfl⟩
        have eR : F_Mod_ready (nI T) ρ1 = some ρ' := by
          unfold F_Mod_ready
          rw [vG_at hT (by omega)]
          simp only [vL]
          rw [vG_at hT (by omega), hρ']
          have z : ed_st ρ1 7 0 T 1 51 0 0 = ρ 51 0 0 := by rw [ed_st_n (by omega), hρ1]; simp [ed_st]
          rw [z]
        have hB : ag_ ρ ρ' [1, 2, 5, 6, 7, 8, 13, 16, 43, 51] := by
          rw [hρ']
          exact ((hB1.st (by decide)).st (by decide)).st (by decide)
        rw [vB1_at eC, vB1_at eR]
        have hrd : ∀ k j, k ∉ [18, 39] → σ' k j 0 = σ2 k j 0 := fun k j hk => f5 k j 0 (fun z => hk (by rcases z.2 with e | e <;> rw [e] <;> decide))
        have s1 : σ' 1 0 0 = nI (T + 1) := by rw [hrd 1 0 (by decide), hσ2, hσ1]; simp [ed_st]
        have s20 : ∀ u, σ' 20 u 0 = if u = p then ρ 2 0 p + 1 else σ 20 u 0 := fun u => by rw [hrd 20 u (by decide), hσ2, hσ1]; simp [ed_st]
        have s21 : ∀ u, σ' 21 u 0 = if u = p then ρ 1 0 p + 1 else σ 21 u 0 := fun u => by rw [hrd 21 u (by decide), hσ2, hσ1]; simp [ed_st]
        have s8 : ∀ u, σ' 8 u 0 = if u = T then nI p else σ 8 u 0 := fun u => by rw [hrd 8 u (by decide), hσ2, hσ1]; simp [ed_st]
        have s9' : ∀ u, σ' 9 u 0 = if u = T then nI pr else σ 9 u 0 := fun u => by rw [hrd 9 u (by decide), hσ2, hσ1]; simp [ed_st]
        have s10 : ∀ u, σ' 10 u 0 = if u = T then 1 else σ 10 u 0 := fun u => by rw [hrd 10 u (by decide), hσ2, hσ1]; simp [ed_st]
        have r43 : ρ' 43 0 0 = nI (T + 1) := by rw [hρ', hρ1]; simp [ed_st]
        have r5 : ∀ u, ρ' 5 0 u = if u = T then nI p else ρ 5 0 u := fun u => by rw [hρ', hρ1]; simp [ed_st]
        have r6 : ∀ u, ρ' 6 0 u = if u = T then nI pr else ρ 6 0 u := fun u => by rw [hρ', hρ1]; simp [ed_st]
        have r7 : ∀ u, ρ' 7 0 u = if u = T then 1 else ρ 7 0 u := fun u => by rw [hρ', hρ1]; simp [ed_st]
        have r8 : ∀ u, ρ' 8 0 u = if u = T then -10 else ρ 8 0 u := fun u => by rw [hρ', hρ1]; simp [ed_st]
        have r13 : ∀ u, ρ' 13 0 u = if u = T then -1 else ρ 13 0 u := fun u => by rw [hρ', hρ1]; simp [ed_st]
        have r16 : ∀ u, ρ' 16 0 u = if u = T then ρ 51 0 0 + 1 else ρ 16 0 u := fun u => by rw [hρ', hρ1]; simp [ed_st]
        have r2 : ∀ u, ρ' 2 0 u = if u = p then ρ 2 0 p + 1 else ρ 2 0 u := fun u => by rw [hρ', hρ1]; simp [ed_st]
        have r1 : ∀ u, ρ' 1 0 u = if u = p then ρ 1 0 p + 1 else ρ 1 0 u := fun u => by rw [hρ', hρ1]; simp [ed_st]
        have r51 : ρ' 51 0 0 = ρ 51 0 0 + 1 := by rw [hρ']; simp [ed_st]
        have hw := hb.nw (by omega)
        have i51 := add1 hw.2.2.2
        have ho : ρ 51 0 0 ≤ ρ' 51 0 0 := by
          rw [r51, Int32.le_iff_toInt_le, i51]
          omega
        obtain ⟨q', hq'⟩ : ∃ z, z = va_up q (8 + pr) (q (8 + pr) ++ [T]) := ⟨_, rfl⟩
        have kr : ∀ r, r ≠ 8 + pr → q' r = q r := fun r h3 => by rw [hq', up_n h3]
        have kp : q' (8 + pr) = q (8 + pr) ++ [T] := by rw [hq', up_s]
        have k33 : q' 33 = q 33 := kr 33 (by omega)
        have hhc : ∀ o, hc_ ρ' o = hc_ ρ o := fun o => hc_.ag hB (by decide) o
        have hpc : ∀ o, pc_ ρ' (T + 1) (q' 33).length o = pc_ ρ T (q 33).length o := fun o => by
          rw [k33]
          unfold pc_
          have hz : ∀ k, k < 3 → pw_ ρ' o (3 * T + k) = false := fun k hk => by simp [pw_, show (3 * T + k) / 3 = T by omega, r7]
          have e3 : cn_ (3 * (T + 1)) (pw_ ρ' o) = cn_ (3 * T) (pw_ ρ' o) := by
            show cn_ (3 * T) (pw_ ρ' o) + (if pw_ ρ' o (3 * T + 0) then 1 else 0) + (if pw_ ρ' o (3 * T + 1) then 1 else 0) + (if pw_ ρ' o (3 * T + 2) then 1 else 0) = _
            rw [hz 0 (by omega), hz 1 (by omega), hz 2 (by omega)]
            rfl
          rw [e3, cn_congr (c := pw_ ρ' o) (d := pw_ ρ o) (fun j hj => by
            have hne : j / 3 ≠ T := by omega
            simp only [pw_, r7, if_neg hne, hB.at 17 (by decide)]), cn_congr (c := pd_ ρ' o) (d := pd_ ρ o) (fun j _ => by simp only [pd_, hB.at 31 (by decide), hB.at 34 (by decide)]), cn_congr (c := ps_ ρ' o) (d := ps_ ρ o) (fun j _ => by simp only [ps_, hB.at 31 (by decide), hB.at 36 (by decide)]), cn_congr (c := pi_ ρ' o) (d := pi_ ρ o) (fun j _ => by simp only [pi_, hB.at 40 (by decide)])]
        have mM : gM σ' ρ' (T + 1) P q' := by
          refine ⟨?_, ?_, ?_, ?_, ?_, ?_, ?_, ?_, nX.up hA hB (by decide) (by decide) ho, ?_, ?_, ?_, nH.ag hA (by decide) hhc hpc, nO.ag hA hB (by decide) (by decide) hhc hpc⟩
          · rw [hq']
            exact q2.up f5 g5
          · refine ⟨a1, by omega, ?_, ?_, s1, r43, ?_, ?_, ?_, ?_, ?_, ?_, ?_⟩
            · rw [hA.at 0 (by decide)]; exact a3
            · rw [hB.at 42 (by decide)]; exact a4
            · rw [hA.at 2 (by decide), hB.at 50 (by decide)]; exact a7
            · rw [hA.at 3 (by decide), hB.at 46 (by decide)]; exact a8
            · rw [hA.at 4 (by decide), hB.at 47 (by decide)]; exact a9
            · rw [hB.at 47 (by decide)]; exact a10
            · rw [hA.at 5 (by decide), hB.at 44 (by decide)]; exact a11
            · rw [hA.at 6 (by decide), hB.at 45 (by decide)]; exact a12
            · rw [hA.at 7 (by decide), hB.at 49 (by decide)]; exact a13
          · intro u hu
            rw [s8, s9', s10, hA.at 11 (by decide), hA.at 12 (by decide), hA.at 13 (by decide), hA.at 14 (by decide), r5, r6, r7, r8, hB.at 10 (by decide), hB.at 11 (by decide), hB.at 12 (by decide)]
            by_cases c : u = T
            · subst c
              obtain ⟨u1, u2, u3, u4, u5, u6, u7, u8, u9⟩ := nU u (Nat.le_refl _) hT
              simp only [if_pos trivial, if_true]
              exact ⟨trivial, trivial, trivial, u1, by rw [u2, u6], by rw [u3, u7], by rw [u4, u8], ⟨p, hp, rfl⟩, ⟨pr, hpr, rfl⟩⟩
            · simp only [if_neg c]
              exact nT u (by omega)
          · intro u hu hu8
            rw [hA.at 11 (by decide), hA.at 12 (by decide), hA.at 13 (by decide), hA.at 14 (by decide), hB.at 9 (by decide), hB.at 10 (by decide), hB.at 11 (by decide), hB.at 12 (by decide), kr u (by omega)]
            exact nU u (by omega) hu8
          · rcases nR with ⟨h1, h2⟩ | ⟨t, h1, h2, h3⟩
            · refine Or.inl ⟨by rw [hB.at 44 (by decide)]; exact h1, fun u hu => ?_⟩
              rw [r7]
              by_cases c : u = T
              · rw [if_pos c]; decide
              · rw [if_neg c]; exact h2 u (by omega)
            · refine Or.inr ⟨t, by omega, by rw [hB.at 44 (by decide)]; exact h2, fun u hu => ?_⟩
              rw [r7]
              by_cases c : u = T
              · rw [if_pos c]
                exact ⟨fun z => absurd z (by decide), fun z => by omega⟩
              · rw [if_neg c]; exact h3 u (by omega)
          · intro u hu
            rw [hB.at 9 (by decide), kr u (by omega)]
            simp only [hB.at 18 (by decide)]
            by_cases c : u = T
            · subst c
              obtain ⟨u1, u2, u3, u4, u5, u6, u7, u8, u9⟩ := nU u (Nat.le_refl _) hT
              rw [u9]
              exact ⟨u5, fun j v hj => by simp at hj⟩
            · exact nC u (by omega)
          · obtain ⟨w1, w2, w3, w4⟩ := nW
            refine ⟨?_, fun u => ?_, fun u hu z => ?_, fun u hu z => ?_⟩
            · rw [kr 32 (by omega)]
              simp only [hB.at 15 (by decide)]
              exact w1
            · rw [kr 32 (by omega), w2 u, r7]
              by_cases c : u = T
              · subst c
                rw [if_pos rfl]
                exact ⟨fun z => absurd z.1 (by omega), fun z => absurd z.2 (by decide)⟩
              · rw [if_neg c]
                exact ⟨fun z => ⟨by omega, z.2⟩, fun z => ⟨by omega, z.2⟩⟩
            · have hne : u ≠ T := fun c => by
                rw [r7, if_pos c] at z
                exact absurd z (by decide)
              rw [r7, if_neg hne] at z
              obtain ⟨d1, d2, d3, d3', d4, d5, d6⟩ := w3 u (by omega) z
              simp only [hA.at 15 (by decide), hA.at 16 (by decide), hA.at 17 (by decide), hA.at 40 (by decide), r13, if_neg hne, hB.at 14 (by decide), hB.at 15 (by decide), hB.at 17 (by decide), hB.at 22 (by decide), pl_]
              exact ⟨d1, le_tr d2 ho, d3, d3', d4, d5, d6⟩
            · rw [r13]
              by_cases c : u = T
              · rw [if_pos c]
              · rw [if_neg c]
                refine w4 u (by omega) (fun y => z ?_)
                rw [r7, if_neg c]
                exact y
          · exact nD.add (T' := T + 1) (t := T) (p := pr) (by omega) (by omega) (fun u h1 h2 => by omega) hnr hpr (by rw [r6, if_pos rfl]) (fun u hu => by rw [r6, if_neg hu]) (fun u hu => by rw [r7, if_neg hu]) (by rw [r7, if_pos rfl]) (by rw [r16, if_pos rfl]) (fun u hu => by rw [r16, if_neg hu]) r51 (hB.at 52 (by decide) 0 0) hw kp (fun x hx hne => kr (8 + x) (by omega))
          · intro o ho2
            rw [kr (16 + o) (by omega)]
            exact (nV.ag hB (by decide)) o ho2
          · have := nI'.ag hB (by decide)
            unfold gI at *
            rw [k33]
            exact this
          · intro u hu
            obtain ⟨b1, b2, b3, b4⟩ := nP u hu
            rw [hA.at 19 (by decide), hB.at 0 (by decide), s20, s21, r2, r1]
            refine ⟨b1, ?_, ?_, ?_⟩
            · by_cases c : u = p
              · rw [if_pos c, if_pos c]
              · rw [if_neg c, if_neg c]; exact b2
            · by_cases c : u = p
              · rw [if_pos c, if_pos c]
              · rw [if_neg c, if_neg c]; exact b3
            · unfold hd_ at *
              simp only [hA.at 41 (by decide), hA.at 42 (by decide), hB.at 3 (by decide), hB.at 4 (by decide)]
              exact b4
        have mL : gL ρ' (T + 1) := fun u hu => by
          obtain ⟨mm, h1, h2, h3⟩ := hL u hu
          by_cases c : u = p
          · subst c
            refine ⟨mm + 1, by omega, ?_, fun t _ _ => by omega⟩
            rw [r2, if_pos rfl, h2, nI_1]
          · refine ⟨mm, by omega, by rw [r2, if_neg c]; exact h2, fun t ht z => ?_⟩
            rw [r5] at z
            by_cases c2 : t = T
            · rw [if_pos c2] at z
              exact absurd ((nI_eq (by omega) (by omega)).mp z).symm c
            · rw [if_neg c2] at z
              exact h3 t (by omega) z
        have mZ : zM (1300 * n + 1) σ' ρ' (T + 1) P q' := ⟨mM, hb.s (by omega) r51 (hB.at 52 (by decide) 0 0), hqu.ag hB (by decide) (fun t z => by rw [kr 32 (by omega)] at z; exact z), hJ.ag hB (by decide) k33, hK.ag hB (by decide), mL⟩
        obtain ⟨σf, ρf, z1, z2, z3, -, -⟩ := mZ.fin (n := n + 1) (by omega) (by omega) (by
          obtain ⟨C, h1, h2⟩ := hC
          exact ⟨C, by omega, by rw [hB.at 46 (by decide)]; exact h2⟩) (fun z => by
          rw [hB.at 47 (by decide)] at z
          obtain ⟨-, z2, z3⟩ := hl z
          refine ⟨by rw [k33]; exact z2, fun t ht w v => ?_⟩
          have hne : t ≠ T := fun c => by
            rw [r7, if_pos c] at w
            exact absurd w (by decide)
          rw [r7, if_neg hne] at w
          rw [hB.at 14 (by decide)] at v
          rw [kr t (by omega)]
          exact z3 t (by omega) w v) (nI T)
        rw [vB1_at z1, vB2_at z2]
        exact jt_b rfl z3
    by_cases c : ρ 2 0 p ≤ 0
    · rw [if_pos c, if_pos c, vB2_at (show some ((0 : Int32), σ) = some (0, σ) from rfl), if_pos rfl]
      exact key
    · rw [if_neg c, if_neg c]
      by_cases c2 : ρ 1 0 p = 0
      · rw [if_pos c2, if_pos c2, vB2_at (show some ((1 : Int32), σ) = some (1, σ) from rfl), if_neg (by decide)]
        exact jt_b rfl hS'
      · rw [if_neg c2, if_neg c2, vB2_at (show some ((0 : Int32), σ) = some (0, σ) from rfl), if_pos rfl]
        exact key
