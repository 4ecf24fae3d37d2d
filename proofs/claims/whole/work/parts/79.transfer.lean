/-! ===== the pure part: transfer ===== -/
theorem ed_st_id (σ : ed_S) (k i j : Nat) : ed_st σ k i j (σ k i j) = σ := by
  funext x y z
  unfold ed_st
  split
  · next e => obtain ⟨rfl, rfl, rfl⟩ := e; rfl
  · rfl
theorem s_freeTr {σ ρ : ed_S} {x1 x2 x3 x4 x6 x7 : Int32} (hX : gX σ ρ) : ∀ (n k : Nat), 8 < n + k → k ≤ 8 → ∃ j, j ≤ 8 ∧ F_Desk_freeTransfer_2 n (nI k) σ = some ((if j = 8 then -1 else nI j), σ) ∧ F_Mod_transfer_132 n x1 x2 x3 x4 (nI k) x6 x7 ρ = (if j = 8 then some (-2, ρ) else (if (x7 &&& 2) = 2 then (F_Mod_transfer_178 x1 x2 x3 x4 (nI j) x6 x7 1 ρ) else (F_Mod_transfer_178 x1 x2 x3 x4 (nI j) x6 x7 0 ρ))) ∧ (j < 8 → ¬ ρ 31 0 j = 0) := by
  intro n
  induction n with
  | zero => intro k h1 h2; omega
  | succ n ih =>
    intro k h1 h2
    rcases Nat.lt_or_ge k 8 with hk | hk
    · have e1 : F_Desk_freeTransfer_2 (n + 1) (nI k) σ = if ρ 31 0 k = 0 then F_Desk_freeTransfer_2 n (nI (k + 1)) σ else some (nI k, σ) := by
        show (if (8 : Int32) ≤ nI k then _ else _) = _
        rw [if_neg (by rw [show (8 : Int32) = nI 8 from rfl]; exact nI_ge hk (by omega)), vG_at hk (by omega), nI_1, (hX k hk).1]
      have e2 : F_Mod_transfer_132 (n + 1) x1 x2 x3 x4 (nI k) x6 x7 ρ = if ρ 31 0 k = 0 then F_Mod_transfer_132 n x1 x2 x3 x4 (nI (k + 1)) x6 x7 ρ else (if (x7 &&& 2) = 2 then (F_Mod_transfer_178 x1 x2 x3 x4 (nI k) x6 x7 1 ρ) else (F_Mod_transfer_178 x1 x2 x3 x4 (nI k) x6 x7 0 ρ)) := by
        show (if (8 : Int32) ≤ nI k then _ else _) = _
        rw [if_neg (by rw [show (8 : Int32) = nI 8 from rfl]; exact nI_ge hk (by omega)), vG_at hk (by omega), nI_1, if_neg (show ¬ nI k = 8 from fun z => by have := (nI_eq (b := 8) (by omega) (by omega)).mp z; omega)]
      by_cases c : ρ 31 0 k = 0
      · rw [e1, e2, if_pos c, if_pos c]
        exact ih (k + 1) (by omega) (by omega)
      · rw [e1, e2, if_neg c, if_neg c]
        exact ⟨k, h2, by rw [if_neg (show ¬ k = 8 by omega)], by rw [if_neg (show ¬ k = 8 by omega)], fun _ => c⟩
    · have hk8 : k = 8 := by omega
      subst hk8
      exact ⟨8, by omega, rfl, rfl, fun z => by omega⟩
/-- a transfer begins: it stands in no row yet -/
theorem s_begin {b T P t o i : Nat} {σ ρ : ed_S} {q : Nat → List Nat} {x3 tg : Int32} (z : zM b σ ρ T P q) (hb : b < 1000000) (hr : ρ 44 0 0 = nI t) (hr5 : σ 5 0 0 = nI t) (ho : o < 16) (hco : ¬ hc_ ρ (nI o) = 0) (htg : tg = -1 ∨ ∃ u, u < 16 ∧ tg = nI u ∧ ¬ hc_ ρ (nI u) = 0 ∧ (ρ 22 0 u = 0 ∨ ρ 22 0 u = 1)) (hi : i < 8) (hnp : ¬ ρ 31 0 i = 0) :
    ∃ σ1 σ' ρ', F_Tra_begin i (nI t) (nI o) x3 tg σ = some σ1 ∧ F_Desk_pointToObjectsOf i 1 σ1 = some σ' ∧ ρ' = ed_st (ed_st (ed_st (ed_st (ed_st (ed_st (ed_st (ed_st (ed_st (ed_st ρ 31 0 i 0) 32 0 i 0) 33 0 i (nI t)) 34 0 i (nI o)) 35 0 i x3) 36 0 i tg) 51 0 0 (ρ 51 0 0 + 1)) 37 0 i (ρ 51 0 0 + 1)) 38 0 i 0) 39 0 i 0 ∧ zMi (b + 1) σ' ρ' T P q i ∧ ag_ σ σ' [25, 31, 32, 33, 34, 35, 36, 37, 38] ∧ ag_ ρ ρ' [31, 32, 33, 34, 35, 36, 37, 38, 39, 51] ∧ ρ' 31 0 i = 0 ∧ ρ' 34 0 i = nI o ∧ ρ' 35 0 i = x3 ∧ (∀ j, j ≠ i → ρ' 37 0 j = ρ 37 0 j) ∧ ρ' 37 0 i = ρ 51 0 0 + 1 := by
  obtain ⟨⟨nQ, nA, nT, nU, nR, nC, nW, nD, nX, nV, nI', nP, nH, nO⟩, k2, k3, k4, k5, k6⟩ := z
  obtain ⟨σ1, hσ1⟩ : ∃ w, w = ed_st (ed_st (ed_st (ed_st (ed_st (ed_st (ed_st (ed_st σ 31 i 0 0) 32 i 0 0) 33 i 0 (nI t)) 34 i 0 (nI o)) 35 i 0 x3) 36 i 0 tg) 37 i 0 0) 38 i 0 0 := ⟨_, rfl⟩
  have a1 : ag_ σ σ1 [31, 32, 33, 34, 35, 36, 37, 38] := by rw [hσ1]; exact (((((((ag_.rf.st (by decide)).st (by decide)).st (by decide)).st (by decide)).st (by decide)).st (by decide)).st (by decide)).st (by decide)
  have hoi : oi_ tg 16 := by
    rcases htg with w | ⟨u, w1, w2, -⟩
    · exact Or.inl w
    · exact Or.inr ⟨u, w1, w2⟩
  have p31 : ∀ j, σ1 31 j 0 = if j = i then 0 else σ 31 j 0 := fun j => by rw [hσ1]; simp [ed_st]
  have p32 : ∀ j, σ1 32 j 0 = if j = i then 0 else σ 32 j 0 := fun j => by rw [hσ1]; simp [ed_st]
  have p33 : ∀ j, σ1 33 j 0 = if j = i then nI t else σ 33 j 0 := fun j => by rw [hσ1]; simp [ed_st]
  have p34 : ∀ j, σ1 34 j 0 = if j = i then nI o else σ 34 j 0 := fun j => by rw [hσ1]; simp [ed_st]
  have p35 : ∀ j, σ1 35 j 0 = if j = i then x3 else σ 35 j 0 := fun j => by rw [hσ1]; simp [ed_st]
  have p36 : ∀ j, σ1 36 j 0 = if j = i then tg else σ 36 j 0 := fun j => by rw [hσ1]; simp [ed_st]
  have p37 : ∀ j, σ1 37 j 0 = if j = i then 0 else σ 37 j 0 := fun j => by rw [hσ1]; simp [ed_st]
  have p38 : ∀ j, σ1 38 j 0 = if j = i then 0 else σ 38 j 0 := fun j => by rw [hσ1]; simp [ed_st]
  obtain ⟨σ', e2, a2, g2⟩ := d_pto (σ := σ1) (i := i) (o := o) (m := 1) ho (by rw [p34, if_pos rfl]) (by rw [p36, if_pos rfl]; exact hoi)
  obtain ⟨ρ', hρ'⟩ : ∃ w, w = ed_st (ed_st (ed_st (ed_st (ed_st (ed_st (ed_st (ed_st (ed_st (ed_st ρ 31 0 i 0) 32 0 i 0) 33 0 i (nI t)) 34 0 i (nI o)) 35 0 i x3) 36 0 i tg) 51 0 0 (ρ 51 0 0 + 1)) 37 0 i (ρ 51 0 0 + 1)) 38 0 i 0) 39 0 i 0 := ⟨_, rfl⟩
  have a : ag_ σ σ' [25, 31, 32, 33, 34, 35, 36, 37, 38] := (a1.mo (by decide)).tr (a2.mo (by decide))
  have b' : ag_ ρ ρ' [31, 32, 33, 34, 35, 36, 37, 38, 39, 51] := by rw [hρ']; exact (((((((((ag_.rf.st (by decide)).st (by decide)).st (by decide)).st (by decide)).st (by decide)).st (by decide)).st (by decide)).st (by decide)).st (by decide)).st (by decide)
  have r31 : ∀ j, ρ' 31 0 j = if j = i then 0 else ρ 31 0 j := fun j => by rw [hρ']; simp [ed_st]
  have r32 : ∀ j, ρ' 32 0 j = if j = i then 0 else ρ 32 0 j := fun j => by rw [hρ']; simp [ed_st]
  have r33 : ∀ j, ρ' 33 0 j = if j = i then nI t else ρ 33 0 j := fun j => by rw [hρ']; simp [ed_st]
  have r34 : ∀ j, ρ' 34 0 j = if j = i then nI o else ρ 34 0 j := fun j => by rw [hρ']; simp [ed_st]
  have r35 : ∀ j, ρ' 35 0 j = if j = i then x3 else ρ 35 0 j := fun j => by rw [hρ']; simp [ed_st]
  have r36 : ∀ j, ρ' 36 0 j = if j = i then tg else ρ 36 0 j := fun j => by rw [hρ']; simp [ed_st]
  have r37 : ∀ j, ρ' 37 0 j = if j = i then ρ 51 0 0 + 1 else ρ 37 0 j := fun j => by rw [hρ']; simp [ed_st]
  have r38 : ∀ j, ρ' 38 0 j = if j = i then 0 else ρ 38 0 j := fun j => by rw [hρ']; simp [ed_st]
  have r39 : ∀ j, ρ' 39 0 j = if j = i then 0 else ρ 39 0 j := fun j => by rw [hρ']; simp [ed_st]
  have r51 : ρ' 51 0 0 = ρ 51 0 0 + 1 := by rw [hρ']; simp [ed_st]
  have i51 := add1 (k2.nw hb).2.2.2
  have hle51 : ρ 51 0 0 ≤ ρ' 51 0 0 := by rw [r51, Int32.le_iff_toInt_le, i51]; omega
  have hhc : ∀ u, hc_ ρ' u = hc_ ρ u := fun u => hc_.ag b' (by decide) u
  have hpc : ∀ u, pc_ ρ' T (q 33).length u = (pc_ ρ T (q 33).length u + (if tg = u then 1 else 0)) + (if nI o = u then 1 else 0) := fun u => by
    have := pc_tr (ρ := ρ') (ρ' := ρ) (T := T) (K := (q 33).length) hi (by rw [r31, if_pos rfl]) hnp (fun j hj => by rw [r31, if_neg hj]) (fun j hj => by rw [r34, if_neg hj]) (fun j hj => by rw [r36, if_neg hj]) b'.sy (by decide) u
    rw [r34, r36, if_pos rfl, if_pos rfl] at this
    exact this
  have hth : ∀ u, u < 16 → (th_ ρ' T q u ↔ th_ ρ T q u) := fun u hu => by
    unfold th_
    rw [hhc, hpc]
    by_cases c : hc_ ρ (nI u) = 0
    · have n1 : ¬ tg = nI u := fun w => by
        rcases htg with y | ⟨v, y1, y2, y3, -⟩
        · rw [y] at w; exact nI_m1 (show u < 2 ^ 31 by omega) w.symm
        · rw [y2] at w
          have := (nI_eq (by omega) (by omega)).mp w
          subst this
          exact y3 c
      have n2 : ¬ nI o = nI u := fun w => by
        have := (nI_eq (by omega) (by omega)).mp w
        subst this
        exact hco c
      rw [if_neg n1, if_neg n2]
      rfl
    · exact ⟨fun _ y => c y.1, fun _ y => c y.1⟩
  refine ⟨σ1, σ', ρ', ?_, e2, hρ', ⟨⟨?_, nA.ag a b' (by decide) (by decide), nT.ag a b' (by decide) (by decide), nU.ag a b' (by decide) (by decide), nR.ag b' (by decide), nC.ag b' (by decide), nW.up a b' (by decide) (by decide) hle51 rfl, nD.up b' (by decide) hle51 (fun _ _ => rfl), ?_, ?_, nI'.ag b' (by decide), nP.ag a b' (by decide) (by decide), ?_, ?_⟩, k2.s hb r51 (b'.at 52 (by decide) 0 0), k3.ag b' (by decide) (fun _ w => w), ?_, k5.ag b' (by decide), k6.ag b' (by decide)⟩, a, b', by rw [r31, if_pos rfl], by rw [r34, if_pos rfl], by rw [r35, if_pos rfl], fun j hj => by rw [r37, if_neg hj], by rw [r37, if_pos rfl]⟩
  · unfold F_Tra_begin
    simp only [vL]
    rw [hσ1]
  · exact nQ.ag a (by decide)
  · intro j hj
    obtain ⟨y1, y2, y3, y4, y5, y6, y7, y8, y9, y10, y11, y12⟩ := nX j hj
    rw [a2.at 31 (by decide), a2.at 32 (by decide), a2.at 33 (by decide), a2.at 34 (by decide), a2.at 35 (by decide), a2.at 36 (by decide), a2.at 37 (by decide), a2.at 38 (by decide), p31, p32, p33, p34, p35, p36, p37, p38, r31, r32, r33, r34, r35, r36, r37, r38, r39]
    by_cases c : j = i
    · rw [if_pos c, if_pos c, if_pos c, if_pos c, if_pos c, if_pos c, if_pos c, if_pos c, if_pos c, if_pos c, if_pos c, if_pos c, if_pos c, if_pos c, if_pos c, if_pos c]
      exact ⟨rfl, rfl, rfl, rfl, rfl, rfl, rfl, rfl, Or.inr ⟨0, by omega, rfl⟩, Or.inl rfl, Or.inl rfl, fun _ => ⟨⟨o, ho, rfl⟩, hoi, by first | (rw [r51, if_pos c]; exact le_rf _) | (rw [r51]; exact le_rf _)⟩⟩
    · simp only [if_neg c]
      exact ⟨y1, y2, y3, y4, y5, y6, y7, y8, y9, y10, y11, fun w => ⟨(y12 w).1, (y12 w).2.1, le_tr (y12 w).2.2 hle51⟩⟩
  · intro u hu
    have hne : ∀ x, x ∈ q (16 + u) → x ≠ i := fun x hx e => by
      subst e
      exact hnp (((nV u hu).2 x).mp hx).2.1
    refine ⟨?_, fun j => ?_⟩
    · refine List.Pairwise.imp_of_mem ?_ (nV u hu).1
      intro x y hx hy w
      rw [r37, r37, if_neg (hne x hx), if_neg (hne y hy)]
      exact w
    · rw [(nV u hu).2 j, r31, r34]
      by_cases c : j = i
      · constructor
        · intro w; rw [c] at w; exact absurd w.2.1 hnp
        · intro w; exact absurd c w.2.2.2
      · rw [if_neg c, if_neg c]
        exact ⟨fun w => ⟨w.1, w.2.1, w.2.2, c⟩, fun w => ⟨w.1, w.2.1, w.2.2.1⟩⟩
  · intro u hu
    obtain ⟨n1, n2⟩ := nH u hu
    have s25 : σ1 25 u 0 = σ 25 u 0 := a1.at 25 (by decide) u 0
    rw [hhc, a.at 24 (by decide), g2 u hu, s25, n2, hpc, p36, if_pos rfl, ep1, ep1]
    exact ⟨n1, congrArg nI (by omega)⟩
  · refine ⟨fun u hu => by rw [b'.at 19 (by decide)]; exact nO.1 u hu, fun u hu h => ?_⟩
    obtain ⟨x, y⟩ := nO.2 u hu ((hth u hu).mp h)
    refine ⟨x.ag a b' (by decide) (by decide), fun w => ?_⟩
    rw [hhc] at w
    rw [a.at 23 (by decide), b'.at 23 (by decide)]
    exact y w
  · refine ⟨fun j hj w u hu w2 => ?_, fun v hv => by rw [b'.at 22 (by decide)]; exact k4.2 v hv⟩
    rw [b'.at 22 (by decide)]
    rw [r31] at w
    rw [r36] at w2
    by_cases c : j = i
    · rw [if_pos c] at w2
      rcases htg with y | ⟨v, y1, y2, y3, y4⟩
      · rw [y] at w2; exact absurd w2.symm (nI_m1 (by omega))
      · rw [y2] at w2
        have := (nI_eq (by omega) (by omega)).mp w2
        subst this
        exact y4
    · rw [if_neg c] at w w2
      exact k4.1 j hj w u hu w2
/-- it is put into the row of its device -/
theorem gMi.add {σ ρ : ed_S} {T P i o : Nat} {q : Nat → List Nat} (m : gMi σ ρ T P q i) (hi : i < 8) (ho : o < 16) (h0 : ρ 31 0 i = 0) (h34 : ρ 34 0 i = nI o) (h37 : ∀ j, j ∈ q (16 + o) → ρ 37 0 j < ρ 37 0 i) : ∃ σ', F_Row_addLast (16 + o) (nI i) σ = some σ' ∧ gM σ' ρ T P (va_up q (16 + o) (q (16 + o) ++ [i])) ∧ ag_ σ σ' [18, 39] := by
  obtain ⟨nQ, nA, nT, nU, nR, nC, nW, nD, nX, nV, nI', nP, nH, nO⟩ := m
  have hin : i ∉ q (16 + o) := fun w => (((nV o ho).2 i).mp w).2.2.2 rfl
  have hcap : (q (16 + o)).length < ed_cap (16 + o) := by
    have h1 : (i :: q (16 + o)).length ≤ 8 := nd_len 8 _ (List.nodup_cons.mpr ⟨hin, pw_nd (nV o ho).1⟩) (fun y hy => by
      rcases List.mem_cons.mp hy with e | e
      · omega
      · exact (((nV o ho).2 y).mp e).1)
    simp only [List.length_cons] at h1
    have h2 : ed_cap (16 + o) = 8 := if_neg (by omega)
    omega
  obtain ⟨σ', e, f, g⟩ := row_addLast (x := i) (nQ (16 + o) (by omega)) hcap
  have a : ag_ σ σ' [18, 39] := ag_.rf.fr f (by decide) (by decide)
  have b : ag_ ρ ρ [] := ag_.rf
  have q33 : va_up q (16 + o) (q (16 + o) ++ [i]) 33 = q 33 := up_n (by omega)
  refine ⟨σ', e, ⟨nQ.up f g, nA.ag a b (by decide) (by decide), nT.ag a b (by decide) (by decide), ?_, nR, ?_, (nW.ag a b (by decide) (by decide)).q (up_n (by omega)), nD.q (fun p _ => up_n (by omega)), nX.ag a b (by decide) (by decide), ?_, nI'.q q33, nP.ag a b (by decide) (by decide), nH.ag a (by decide) (fun _ => rfl) (fun _ => by rw [q33]), nO.ag a b (by decide) (by decide) (fun _ => rfl) (fun _ => by rw [q33])⟩, a⟩
  · intro u hu hu8
    rw [up_n (by omega)]
    exact (nU.ag a b (by decide) (by decide)) u hu hu8
  · intro u hu
    have hT8 := nA.2.1
    rw [up_n (by omega)]
    exact nC u hu
  · intro u hu
    by_cases c : u = o
    · subst c
      rw [up_s]
      refine ⟨List.pairwise_append.mpr ⟨(nV u hu).1, List.pairwise_singleton _ _, fun x hx y hy => by rw [List.mem_singleton.mp hy]; exact h37 x hx⟩, fun j => ?_⟩
      rw [List.mem_append, List.mem_singleton, (nV u hu).2 j]
      by_cases cj : j = i
      · rw [cj]
        exact ⟨fun _ => ⟨hi, h0, h34⟩, fun _ => Or.inr rfl⟩
      · exact ⟨fun w => by
          rcases w with w | w
          · exact ⟨w.1, w.2.1, w.2.2.1⟩
          · exact absurd w cj, fun w => Or.inl ⟨w.1, w.2.1, w.2.2, cj⟩⟩
    · rw [up_n (by omega)]
      refine ⟨(nV u hu).1, fun j => ?_⟩
      rw [(nV u hu).2 j]
      refine ⟨fun w => ⟨w.1, w.2.1, w.2.2.1⟩, fun w => ⟨w.1, w.2.1, w.2.2, fun e => ?_⟩⟩
      rw [e, h34] at w
      exact c ((nI_eq (by omega) (by omega)).mp w.2.2).symm
/-- the length of transfer i is cut -/
theorem zMi.len {b T P i : Nat} {σ ρ : ed_S} {q : Nat → List Nat} {v : Int32} (z : zMi b σ ρ T P q i) : zMi b (ed_st σ 35 i 0 v) (ed_st ρ 35 0 i v) T P q i := by
  obtain ⟨⟨nQ, nA, nT, nU, nR, nC, nW, nD, nX, nV, nI', nP, nH, nO⟩, k2, k3, k4, k5, k6⟩ := z
  have a : ag_ σ (ed_st σ 35 i 0 v) [35] := ag_.rf.st (by decide)
  have b' : ag_ ρ (ed_st ρ 35 0 i v) [35] := ag_.rf.st (by decide)
  have hhc : ∀ u, hc_ (ed_st ρ 35 0 i v) u = hc_ ρ u := fun u => hc_.ag b' (by decide) u
  have hpc : ∀ u, pc_ (ed_st ρ 35 0 i v) T (q 33).length u = pc_ ρ T (q 33).length u := fun u => pc_.ag b' (by decide) (fun t _ => by rw [b'.at 7 (by decide)]) u
  refine ⟨⟨nQ.ag a (by decide), nA.ag a b' (by decide) (by decide), nT.ag a b' (by decide) (by decide), nU.ag a b' (by decide) (by decide), nR.ag b' (by decide), nC.ag b' (by decide), nW.ag a b' (by decide) (by decide), nD.ag b' (by decide), ?_, ?_, nI'.ag b' (by decide), nP.ag a b' (by decide) (by decide), nH.ag a (by decide) hhc hpc, nO.ag a b' (by decide) (by decide) hhc hpc⟩, k2.ag b' (by decide), k3.ag b' (by decide) (fun _ w => w), k4.ag b' (by decide) rfl, k5.ag b' (by decide), k6.ag b' (by decide)⟩
  · intro j hj
    obtain ⟨y1, y2, y3, y4, y5, y6, y7, y8, y9⟩ := nX j hj
    simp only [a.at 31 (by decide), a.at 32 (by decide), a.at 33 (by decide), a.at 34 (by decide), a.at 36 (by decide), a.at 37 (by decide), a.at 38 (by decide), b'.at 31 (by decide), b'.at 32 (by decide), b'.at 33 (by decide), b'.at 34 (by decide), b'.at 36 (by decide), b'.at 37 (by decide), b'.at 38 (by decide), b'.at 39 (by decide), b'.at 51 (by decide)]
    refine ⟨y1, y2, y3, y4, ?_, y6, y7, y8, y9⟩
    by_cases c : j = i
    · rw [c, ed_st_s, ed_st_s]
    · rw [ed_st_n (by omega), ed_st_n (by omega)]; exact y5
  · intro u hu
    simp only [b'.at 37 (by decide), b'.at 31 (by decide), b'.at 34 (by decide)]
    exact nV u hu
theorem lay2_ : ∀ c, c < 10 → ((nI c &&& 1 = 0 ↔ ¬ nI c &&& 1 = 1) ∧ (nI c &&& 2 = 0 ↔ ¬ nI c &&& 2 = 2)) := by decide +kernel
/-- the transfer goes down through the layers -/
theorem s_down {n T P o i : Nat} {σ ρ : ed_S} {q : Nat → List Nat} {x1 x2 x3 x4 x6 x7 : Int32} (hn : n < 512) (z : zMi (1300 * n + 1) σ ρ T P q i) (ho : o < 16) (h5 : ρ 22 0 o = 5) (hi : i < 8) (h0 : ρ 31 0 i = 0) (h34 : ρ 34 0 i = nI o) (h35 : ρ 35 0 i = x3) (h37 : ∀ j, j ∈ q (16 + o) → ρ 37 0 j < ρ 37 0 i) (h7 : x7 = ρ 24 0 o) (hC : ∃ C, C ≤ 9 * n ∧ ρ 46 0 0 = nI C) (hl : ρ 47 0 0 = 0 → q 33 = [] ∧ na_ ρ T q) :
    jt_ (zS (n + 1)) (vB1 (F_Desk_sendDown (nI i) x2 σ) fun σ25 => (vB1 (F_Desk_lookWhoRuns σ25) fun σ27 => (some (nI i, σ27)))) (if (x7 &&& 1) = 1 then (if x3 ≤ 64 then (F_Mod_transfer_306 x1 x2 x3 x4 (nI i) x6 x7 (if (x7 &&& 2) = 2 then 1 else 0) ρ) else (vB1 (F_Mod_over (nI i) 2 0 ρ) fun σ29 => (F_Mod_end (nI i) σ29))) else (F_Mod_transfer_306 x1 x2 x3 x4 (nI i) x6 x7 (if (x7 &&& 2) = 2 then 1 else 0) ρ)) := by
  have m := z.1
  have nX := z.1.2.2.2.2.2.2.2.2.1
  have hT8 := m.2.1.2.1
  obtain ⟨y1, y2, y3, y4, y5, y6, y7, y8, y9⟩ := nX i hi
  have hob := (m.2.2.2.2.2.2.2.2.2.2.2.2.2.2 o ho (th_tr hi h0 (Or.inl h34))).1
  obtain ⟨h26, c, hc, h24⟩ := hob.2.2.2.2.2.2.2.2.2.1 (Or.inr (Or.inr h5))
  obtain ⟨l1, l2⟩ := lay2_ c hc
  rw [h24] at h7 h26
  subst h7
  -- it ends at once
  have fin : ∀ s y, 0 < s → s < 6 → ∃ σ' ρ' σ2 ρ2, F_Desk_conclude i (nI s) y σ = some σ' ∧ F_Mod_over (nI i) (nI s) y ρ = some ρ' ∧ F_Desk_lookWhoRuns σ' = some σ2 ∧ F_Mod_end (nI i) ρ' = some (nI i, ρ2) ∧ zS (n + 1) σ2 ρ2 := fun s y hs hs6 => by
    obtain ⟨σ', ρ', q', w1, w2, w3, w4⟩ := s_over (y := y) z hi h0 hs hs6 (by omega)
    obtain ⟨σ2, ρ2, v1, v2, v3⟩ := fi_fin w3 w4 hT8 hn (by omega) hC hl (nI i)
    exact ⟨σ', ρ', σ2, ρ2, w1, w2, v1, v2, v3⟩
  -- it is put into the row
  have put : ∀ σ1 ρ1, zMi (1300 * n + 1) σ1 ρ1 T P q i → ag_ ρ ρ1 [35] → ∃ σ' σ2 ρ2, F_Row_addLast (16 + o) (nI i) σ1 = some σ' ∧ F_Desk_lookWhoRuns σ' = some σ2 ∧ F_Mod_end (nI i) ρ1 = some (nI i, ρ2) ∧ zS (n + 1) σ2 ρ2 := fun σ1 ρ1 z1 b1 => by
    obtain ⟨σ', w1, w2, w3⟩ := z1.1.add hi ho (by rw [b1.at 31 (by decide)]; exact h0) (by rw [b1.at 34 (by decide)]; exact h34) (fun j hj => by rw [b1.at 37 (by decide), b1.at 37 (by decide)]; exact h37 j hj)
    have z2 : zM (1300 * n + 1) σ' ρ1 T P (va_up q (16 + o) (q (16 + o) ++ [i])) := ⟨w2, z1.2.1, fun u hu => z1.2.2.1 u (by rw [up_n (by omega)] at hu; exact hu), z1.2.2.2.1.ag (ag_.rf (L := [])) (by decide) (up_n (by omega)), z1.2.2.2.2⟩
    obtain ⟨σ2, ρ2, v1, v2, v3, -, -⟩ := z2.fin (n := n + 1) (by omega) (by omega) (hC_up hC (b1.at 46 (by decide) 0 0)) (fun w => by
      rw [b1.at 47 (by decide)] at w
      obtain ⟨u1, u2⟩ := hl w
      refine ⟨by rw [up_n (by omega)]; exact u1, fun u hu y1 y2 => ?_⟩
      rw [b1.at 7 (by decide)] at y1
      rw [b1.at 14 (by decide)] at y2
      rw [up_n (by omega)]
      exact u2 u hu y1 y2) (nI i)
    exact ⟨σ', σ2, ρ2, w1, v1, v2, v3⟩
  have e44 : jt_ (zS (n + 1)) (vB1 (F_Desk_sendDown_44 (nI i) x2 i o σ) fun σ25 => (vB1 (F_Desk_lookWhoRuns σ25) fun σ27 => (some (nI i, σ27)))) (F_Mod_transfer_306 x1 x2 x3 x4 (nI i) x6 (nI c) (if (nI c &&& 2) = 2 then 1 else 0) ρ) := by
    unfold F_Desk_sendDown_44 F_Mod_transfer_306 F_Mod_transfer_329
    rw [vB2_at (d_layer _ _ _), h26]
    by_cases c2 : nI c &&& 2 = 0
    · obtain ⟨σ', σ2, ρ2, w1, w2, w3, w4⟩ := put σ ρ z ag_.rf
      rw [if_pos c2, if_pos rfl, if_neg (l2.mp c2), if_pos rfl, if_pos rfl, vB1_at w1, w3]
      simp only [vB1, vB2]
      rw [w2]
      exact jt_b rfl w4
    · have c2' : nI c &&& 2 = 2 := Decidable.byContradiction (fun w => c2 (l2.mpr w))
      rw [if_neg c2, if_neg (show ¬ (1 : Int32) = 0 by decide), if_pos c2', if_neg (show ¬ (1 : Int32) = 0 by decide), if_neg (show ¬ (1 : Int32) = 0 by decide)]
      by_cases c3 : x2 < 128
      · rw [if_pos c3, if_pos c3, y5, h35]
        simp only [vL]
        by_cases c4 : (128 - x2) < x3
        · obtain ⟨σ', σ2, ρ2, w1, w2, w3, w4⟩ := put (ed_st σ 35 i 0 (128 - x2)) (ed_st ρ 35 0 i (128 - x2)) z.len (ag_.rf.st (by decide))
          rw [if_pos c4, if_neg (show ¬ x3 ≤ 128 - x2 from fun w => nlt_of_le w c4), vB1_at w1, vG_at hi (by omega), w3]
          simp only [vB1, vB2]
          rw [w2]
          exact jt_b rfl w4
        · obtain ⟨σ', σ2, ρ2, w1, w2, w3, w4⟩ := put σ ρ z ag_.rf
          have eid : ed_st σ 35 i 0 x3 = σ := by
            have := ed_st_id σ 35 i 0
            rw [y5, h35] at this
            exact this
          rw [if_neg c4, if_pos (le_of_nlt c4), eid, vB1_at w1, w3]
          simp only [vB1, vB2]
          rw [w2]
          exact jt_b rfl w4
      · obtain ⟨σ', ρ', σ2, ρ2, w1, w2, w3, w4, w5⟩ := fin 3 0 (by omega) (by omega)
        have w1 : F_Desk_conclude i 3 0 σ = some σ' := w1
        have w2 : F_Mod_over (nI i) 3 0 ρ = some ρ' := w2
        rw [if_neg c3, if_neg c3, vB1_at w1, vB1_at w2, w4]
        simp only [vB1, vB2]
        rw [w3]
        exact jt_b rfl w5
  unfold F_Desk_sendDown
  rw [vG_at hi (by omega), y4, h34, vG_at ho (by omega), vB2_at (d_layer _ _ _), h26, y5, h35]
  by_cases c1 : nI c &&& 1 = 0
  · rw [if_pos c1, if_pos rfl, if_neg (l1.mp c1)]
    exact e44
  · have c1' : nI c &&& 1 = 1 := Decidable.byContradiction (fun w => c1 (l1.mpr w))
    rw [if_neg c1, if_neg (show ¬ (1 : Int32) = 0 by decide), if_pos c1']
    by_cases c3 : x3 ≤ 64
    · rw [if_pos c3, if_pos c3]
      exact e44
    · obtain ⟨σ', ρ', σ2, ρ2, w1, w2, w3, w4, w5⟩ := fin 2 0 (by omega) (by omega)
      have w1 : F_Desk_conclude i 2 0 σ = some σ' := w1
      have w2 : F_Mod_over (nI i) 2 0 ρ = some ρ' := w2
      rw [if_neg c3, if_neg c3, vB1_at w1, vB1_at w2, w4]
      simp only [vB1]
      rw [w3]
      exact jt_b rfl w5
theorem d_ty01 {σ ρ : ed_S} {o : Nat} (ho : o < 16) (hob : ob_ σ ρ o) : ∃ y, (y = 0 ↔ ¬ ρ 22 0 o ≤ 1) ∧ (ρ 22 0 o ≤ 1 → ρ 22 0 o = 0 ∨ ρ 22 0 o = 1) ∧ F_Desk_isOfType (nI o) 0 1 σ = some (y, σ) := by
  obtain ⟨o1, o2, ⟨k, hk, o3⟩, -⟩ := hob
  unfold F_Desk_isOfType
  rw [if_neg (nI_m1 (by omega)), vG_at ho (by omega), vB2_at (d_is _ _ _ _), o2, o3]
  have : k = 0 ∨ k = 1 ∨ k = 2 ∨ k = 3 ∨ k = 4 ∨ k = 5 := by omega
  rcases this with rfl | rfl | rfl | rfl | rfl | rfl
  · exact ⟨1, by decide, by decide, rfl⟩
  · exact ⟨1, by decide, by decide, rfl⟩
  · exact ⟨0, by decide, by decide, rfl⟩
  · exact ⟨0, by decide, by decide, rfl⟩
  · exact ⟨0, by decide, by decide, rfl⟩
  · exact ⟨0, by decide, by decide, rfl⟩
theorem d_tyn {σ : ed_S} {x y : Int32} : F_Desk_isOfType (-1) x y σ = some (0, σ) := by
  unfold F_Desk_isOfType
  rw [if_pos rfl]
theorem c_transfer (n : Nat) (x1 x2 x3 x4 : Int32) (σ ρ : ed_S) (hn : n < 512) (hS : zS n σ ρ) : jt_ (zS (n + 1)) (F_Desk_transfer x1 x2 x3 x4 σ) (F_Mod_transfer x1 x2 x3 x4 ρ) := by
  have hS' := hS.mo
  obtain ⟨T, P, q, z, hC, ti, hl⟩ := hS
  have m := z.1
  unfold F_Desk_transfer F_Mod_transfer
  refine jt_run m hS' (fun t p hT ht hp hr hr5 hh hh8 h0 hpr H => ?_)
  rw [vBr_at hpr hp]
  rcases h_of hp ht hr hh H x1 with ⟨e1, e2⟩ | ⟨hd1, o, hh1, ho, rfl, h41, h3, e1, e2, e3, e4⟩
  · rw [vB2_at e1, vB2_at e2, if_pos rfl]
    rcases h_of hp ht hr hh H x4 with ⟨g1, -⟩ | ⟨hd4, u, -, -, rfl, -, -, g1, -⟩
    · rw [vB2_at g1, vB2_at d_tyn, if_pos rfl]
      exact jt_b rfl hS'
    · rw [vB2_at g1, vB2_at d_tyn, if_pos rfl]
      exact jt_b rfl hS'
  obtain ⟨hco, hth1⟩ := hc_th (T := T) (q := q) (show 8 * p + hd1 < 32 by omega) h3
  have hob1 := (m.2.2.2.2.2.2.2.2.2.2.2.2.2.2 o ho hth1).1
  obtain ⟨y5, -, hy5, et5⟩ := d_ty5 ho hob1
  rw [vB2_at e1, vB2_at e2, if_neg (show ¬ (1 : Int32) = 0 by decide), vB2_at e3, vG_at ho (by omega)]
  obtain ⟨y1, -, l1, l1'⟩ := e4 1
  -- the rest
  have main : ∀ tg : Int32, (tg = -1 ∨ ∃ u, u < 16 ∧ tg = nI u ∧ ¬ hc_ ρ (nI u) = 0 ∧ (ρ 22 0 u = 0 ∨ ρ 22 0 u = 1)) → ρ 22 0 o = 5 → ((x4 = -1 ∧ tg = -1) ∨ (¬ x4 = -1 ∧ ∃ hd4, hd4 < 8 ∧ x4 = nI hd4 ∧ ρ 3 0 (8 * p + hd4) = tg)) → jt_ (zS (n + 1)) (vB2 (F_Desk_freeTransfer σ) fun r11 σ9 => (if r11 = (-1) then (some ((-2), σ9)) else (vG r11 8 fun j13 => (vB1 (F_Tra_begin j13 (σ9 5 0 0) (nI o) x3 tg σ9) fun σ17 => (vG r11 8 fun j19 => (vB1 (F_Desk_pointToObjectsOf j19 1 σ17) fun σ23 => (vB1 (F_Desk_sendDown r11 x2 σ23) fun σ25 => (vB1 (F_Desk_lookWhoRuns σ25) fun σ27 => (some (r11, σ27)))))))))) (F_Mod_transfer_132 ed_fu (nI hd1) x2 x3 x4 0 (nI o) (ρ 24 0 o) ρ) := fun tg htg h5 hx4 => by
    obtain ⟨i, hi, f1, f2, f3⟩ := s_freeTr (σ := σ) (ρ := ρ) (x1 := nI hd1) (x2 := x2) (x3 := x3) (x4 := x4) (x6 := nI o) (x7 := ρ 24 0 o) m.2.2.2.2.2.2.2.2.1 ed_fu 0 (by show _ < 64 + 0; omega) (by omega)
    have f1 : F_Desk_freeTransfer σ = some (if i = 8 then -1 else nI i, σ) := f1
    have f2 : F_Mod_transfer_132 ed_fu (nI hd1) x2 x3 x4 0 (nI o) (ρ 24 0 o) ρ = _ := f2
    rw [vB2_at f1, f2]
    by_cases c8 : i = 8
    · rw [if_pos c8, if_pos c8, if_pos rfl]
      exact jt_b rfl hS'
    · have hi8 : i < 8 := by omega
      rw [if_neg c8, if_neg c8, if_neg (nI_m1 (by omega))]
      simp only [vG_at hi8 (show 8 < 2 ^ 31 by omega)]
      obtain ⟨σ1, σ2, ρ2, g1, g2, g3, z2, a2, b2, g4, g5, g6, g7, g8⟩ := s_begin (x3 := x3) z (by omega) hr hr5 ho hco htg hi8 (f3 hi8)
      rw [hr5, vB1_at g1, vB1_at g2]
      have hlen : ∀ s0, F_Mod_transfer_178 (nI hd1) x2 x3 x4 (nI i) (nI o) (ρ 24 0 o) s0 ρ = (if (ρ 24 0 o &&& 1) = 1 then (if x3 ≤ 64 then (F_Mod_transfer_306 (nI hd1) x2 x3 x4 (nI i) (nI o) (ρ 24 0 o) s0 ρ2) else (vB1 (F_Mod_over (nI i) 2 0 ρ2) fun σ29 => (F_Mod_end (nI i) σ29))) else (F_Mod_transfer_306 (nI hd1) x2 x3 x4 (nI i) (nI o) (ρ 24 0 o) s0 ρ2)) := fun s0 => by
        have e246 : F_Mod_transfer_246 (nI hd1) x2 x3 x4 (nI i) (nI o) (ρ 24 0 o) s0 tg (nI i) (ed_st (ed_st (ed_st (ed_st (ed_st ρ 31 0 i 0) 32 0 i 0) 33 0 i (nI t)) 34 0 i (nI o)) 35 0 i x3) = (if (ρ 24 0 o &&& 1) = 1 then (if x3 ≤ 64 then (F_Mod_transfer_306 (nI hd1) x2 x3 x4 (nI i) (nI o) (ρ 24 0 o) s0 ρ2) else (vB1 (F_Mod_over (nI i) 2 0 ρ2) fun σ29 => (F_Mod_end (nI i) σ29))) else (F_Mod_transfer_306 (nI hd1) x2 x3 x4 (nI i) (nI o) (ρ 24 0 o) s0 ρ2)) := by
          unfold F_Mod_transfer_246
          simp only [vG_at hi8 (show 8 < 2 ^ 31 by omega), vL, vB2_eta]
          have e51 : ed_st (ed_st (ed_st (ed_st (ed_st (ed_st ρ 31 0 i 0) 32 0 i 0) 33 0 i (nI t)) 34 0 i (nI o)) 35 0 i x3) 36 0 i tg 51 0 0 = ρ 51 0 0 := by rw [ed_st_n (by omega), ed_st_n (by omega), ed_st_n (by omega), ed_st_n (by omega), ed_st_n (by omega), ed_st_n (by omega)]
          rw [e51, ← g3]
        unfold F_Mod_transfer_178
        simp only [vG_at hi8 (show 8 < 2 ^ 31 by omega), vL]
        rw [show ed_st (ed_st ρ 31 0 i 0) 32 0 i 0 44 0 0 = nI t by rw [ed_st_n (by omega), ed_st_n (by omega)]; exact hr]
        rcases hx4 with ⟨w1, w2⟩ | ⟨w1, hd4, hh4, w2, w3⟩
        · rw [if_pos w1, ← w2]
          exact e246
        · rw [if_neg w1]
          have eo : F_Mod_objectOf x4 (ed_st (ed_st (ed_st (ed_st (ed_st ρ 31 0 i 0) 32 0 i 0) 33 0 i (nI t)) 34 0 i (nI o)) 35 0 i x3) = some (tg, ed_st (ed_st (ed_st (ed_st (ed_st ρ 31 0 i 0) 32 0 i 0) 33 0 i (nI t)) 34 0 i (nI o)) 35 0 i x3) := by
            have bb : ag_ ρ (ed_st (ed_st (ed_st (ed_st (ed_st ρ 31 0 i 0) 32 0 i 0) 33 0 i (nI t)) 34 0 i (nI o)) 35 0 i x3) [31, 32, 33, 34, 35] := ((((ag_.rf.st (by decide)).st (by decide)).st (by decide)).st (by decide)).st (by decide)
            unfold F_Mod_objectOf
            rw [bb.at 44 (by decide), hr, vG_at ht (by omega), bb.at 5 (by decide), hh, w2, ix8, vG_at (by omega) (by omega), bb.at 3 (by decide), w3]
          rw [vB2_at eo]
          exact e246
      have hdown := s_down (x1 := nI hd1) (x2 := x2) (x3 := x3) (x4 := x4) (x6 := nI o) (x7 := ρ 24 0 o) hn z2 ho (by rw [b2.at 22 (by decide)]; exact h5) hi8 g4 g5 g6 (fun j hj => by
        have hji := ((z2.1.2.2.2.2.2.2.2.2.2.1 o ho).2 j).mp hj
        have hj0 := hji.2.2.2
        rw [g7 j hj0, g8]
        have hjv := ((m.2.2.2.2.2.2.2.2.2.1 o ho).2 j).mp hj
        have := ((m.2.2.2.2.2.2.2.2.1 j hjv.1).2.2.2.2.2.2.2.2.2.2.2 hjv.2.1).2.2
        rw [Int32.le_iff_toInt_le] at this
        rw [Int32.lt_iff_toInt_lt, add1 (z.2.1.nw (by omega)).2.2.2]
        omega) (by rw [b2.at 24 (by decide)]) (by rw [b2.at 46 (by decide)]; exact hC) (fun w => by
        rw [b2.at 47 (by decide)] at w
        exact ⟨(hl w).2.1, (hl w).2.2.ag b2 (by decide)⟩)
      by_cases c2 : (ρ 24 0 o &&& 2) = 2
      · rw [if_pos c2] at hdown
        rw [if_pos c2, hlen]
        exact hdown
      · rw [if_neg c2] at hdown
        rw [if_neg c2, hlen]
        exact hdown
  rcases h_of hp ht hr hh H x4 with ⟨g1, g2⟩ | ⟨hd4, u, hh4, hu, rfl, g41, g3, g1, g2, g5, g6⟩
  · rw [vB2_at g1, vB2_at et5]
    by_cases h5 : ρ 22 0 o = 5
    · rw [if_neg (fun w => hy5.mp w h5), if_pos h5, vB2_at (d_is _ _ _ _), vB2_at (m_is _ _ _ _)]
      refine jt_if Iff.rfl (fun _ => jt_b rfl hS') (fun _ => ?_)
      rw [vB2_at (d_is _ _ _ _), vB2_at (m_is _ _ _ _)]
      refine jt_if Iff.rfl (fun _ => jt_b rfl hS') (fun _ => ?_)
      by_cases c4 : x4 = -1
      · rw [if_pos c4, if_pos c4]
        unfold F_Desk_transfer_90 F_Mod_transfer_85
        rw [vB2_at l1, vB2_at l1']
        refine jt_if Iff.rfl (fun _ => ?_) (fun _ => jt_b rfl hS')
        have elk : F_Proc_lacks p x4 2 σ = some (0, σ) := by
          unfold F_Proc_lacks
          rw [vB2_at g1, if_pos rfl]
        rw [vB2_at elk, if_pos rfl, if_pos c4, vB2_at e3, vG_at ho (by omega)]
        exact main (-1) (Or.inl rfl) h5 (Or.inl ⟨c4, rfl⟩)
      · rw [if_neg c4, if_neg c4, vB2_at d_tyn, vB2_at g2, if_pos rfl, if_pos rfl]
        exact jt_b rfl hS'
    · rw [if_pos (hy5.mpr h5), if_neg h5]
      exact jt_b rfl hS'
  · obtain ⟨hcu, hthu⟩ := hc_th (T := T) (q := q) (show 8 * p + hd4 < 32 by omega) g3
    have hobu := (m.2.2.2.2.2.2.2.2.2.2.2.2.2.2 u hu hthu).1
    obtain ⟨yt, hyt, hyt2, ett⟩ := d_ty01 hu hobu
    obtain ⟨y4, -, l4, l4'⟩ := g6 2
    rw [vB2_at g1, vB2_at et5]
    by_cases h5 : ρ 22 0 o = 5
    · rw [if_neg (fun w => hy5.mp w h5), if_pos h5, vB2_at (d_is _ _ _ _), vB2_at (m_is _ _ _ _)]
      refine jt_if Iff.rfl (fun _ => jt_b rfl hS') (fun _ => ?_)
      rw [vB2_at (d_is _ _ _ _), vB2_at (m_is _ _ _ _)]
      refine jt_if Iff.rfl (fun _ => jt_b rfl hS') (fun _ => ?_)
      have c4 : ¬ nI hd4 = -1 := nI_m1 (by omega)
      rw [if_neg c4, if_neg c4, vB2_at ett, vB2_at g2, if_neg (show ¬ (1 : Int32) = 0 by decide), vB2_at g5, vG_at hu (by omega)]
      by_cases ct : ρ 22 0 u ≤ 1
      · rw [if_neg (fun w => hyt.mp w ct), if_pos ct]
        unfold F_Desk_transfer_90 F_Mod_transfer_85
        rw [vB2_at l1, vB2_at l1']
        refine jt_if Iff.rfl (fun _ => ?_) (fun _ => jt_b rfl hS')
        rw [vB2_at l4, if_neg c4, vB2_at l4']
        refine jt_if Iff.rfl (fun _ => ?_) (fun _ => jt_b rfl hS')
        rw [vB2_at e3, vG_at ho (by omega)]
        exact main (nI u) (Or.inr ⟨u, hu, rfl, hcu, hyt2 ct⟩) h5 (Or.inr ⟨c4, hd4, hh4, rfl, g3⟩)
      · rw [if_pos (hyt.mpr ct), if_neg ct]
        exact jt_b rfl hS'
    · rw [if_pos (hy5.mpr h5), if_neg h5]
      exact jt_b rfl hS'
