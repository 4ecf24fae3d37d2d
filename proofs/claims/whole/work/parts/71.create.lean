/-! ===== the pure part: create ===== -/
theorem th_tr {ρ : ed_S} {T i o : Nat} {q : Nat → List Nat} (hi : i < 8) (h0 : ρ 31 0 i = 0) (h : ρ 34 0 i = nI o ∨ ρ 36 0 i = nI o) : th_ ρ T q o := fun z => by
  have z2 := z.2
  unfold pc_ at z2
  rcases h with h | h
  · have : 0 < cn_ 8 (pd_ ρ (nI o)) := cn_pos (k := i) hi (by simp [pd_, h0, h])
    omega
  · have : 0 < cn_ 8 (ps_ ρ (nI o)) := cn_pos (k := i) hi (by simp [ps_, h0, h])
    omega
theorem th_in {ρ : ed_S} {T v : Nat} {q : Nat → List Nat} (hI : gI ρ q) (h : v ∈ q 33) : th_ ρ T q (v % 16) := fun z => by
  have z2 := z.2
  unfold pc_ at z2
  obtain ⟨j, hj⟩ := List.getElem?_of_mem h
  have hjl := (List.getElem?_eq_some_iff.mp hj).1
  obtain ⟨h1, h2, h3⟩ := hI.2 j v hj
  have : 0 < cn_ (q 33).length (pi_ ρ (nI (v % 16))) := cn_pos (k := j) hjl (by simp [pi_, h2])
  omega
/-- an object that nobody has is begun -/
theorem g_new {σ ρ σ' ρ' : ed_S} {T P o : Nat} {q : Nat → List Nat} (m : gM σ ρ T P q) (ho : o < 16) (nt : ¬ th_ ρ T q o) (a : ∀ k i j, ¬ ((k ∈ [22, 23, 26, 27, 28, 29, 30] ∧ i = o) ∨ (k = 18 ∧ i = 16 + o)) → σ' k i j = σ k i j) (a18 : σ' 18 (16 + o) 0 = 0) (b : ∀ k i j, ¬ (k ∈ [19, 20, 21, 22, 23, 24, 25, 26, 27] ∧ j = o) → ρ' k i j = ρ k i j) (h19 : ρ' 19 0 o = 1) : gM σ' ρ' T P q ∧ (qu_ ρ q → qu_ ρ' q) ∧ (gJ ρ q → gJ ρ' q) ∧ (∀ u, u < 16 → u ≠ o → (ti_ ρ T q → (ρ' 19 0 u = 1 ↔ th_ ρ' T q u) ∧ (th_ ρ' T q u → hc_ ρ' (nI u) = 0 → ρ' 23 0 u = -1))) := by
  have hA : ag_ σ σ' [18, 22, 23, 26, 27, 28, 29, 30] := fun k i j hk => a k i j (fun z => by
    rcases z with z | z
    · exact hk (by have := z.1; revert this; simp; omega)
    · exact hk (by rw [z.1]; decide))
  have hB : ag_ ρ ρ' [19, 20, 21, 22, 23, 24, 25, 26, 27] := fun k i j hk => b k i j (fun z => hk z.1)
  have m' := m
  obtain ⟨nQ, nA, nT, nU, nR, nC, nW, nD, nX, nV, nI', nP, nH, nO⟩ := m
  have hhc : ∀ o, hc_ ρ' o = hc_ ρ o := fun o => hc_.ag hB (by decide) o
  have hpc : ∀ o, pc_ ρ' T (q 33).length o = pc_ ρ T (q 33).length o := fun o => pc_.ag hB (by decide) (fun t _ => by rw [hB.at 7 (by decide)]) o
  have hth : ∀ o, th_ ρ' T q o ↔ th_ ρ T q o := fun o => by unfold th_; rw [hhc, hpc]
  have rne : ∀ k u, u ≠ o → ρ' k 0 u = ρ k 0 u := fun k u hu => b k 0 u (fun z => hu z.2)
  have sne : ∀ k u j, u ≠ o → k ≠ 18 → σ' k u j = σ k u j := fun k u j hu hk => a k u j (fun z => by
    rcases z with z | z
    · exact hu z.2
    · exact hk z.1)
  have hq : q (16 + o) = [] := by
    cases e : q (16 + o) with
    | nil => rfl
    | cons i l =>
      exfalso
      obtain ⟨h1, h2, h3⟩ := ((nV o ho).2 i).mp (by rw [e]; exact List.mem_cons_self)
      exact nt (th_tr h1 h2 (Or.inl h3))
  refine ⟨⟨?_, nA.ag hA hB (by decide) (by decide), nT.ag hA hB (by decide) (by decide), nU.ag hA hB (by decide) (by decide), nR.ag hB (by decide), nC.ag hB (by decide), ?_, nD.ag hB (by decide), nX.ag hA hB (by decide) (by decide), nV.ag hB (by decide), nI'.ag hB (by decide), nP.ag hA hB (by decide) (by decide), nH.ag hA (by decide) hhc hpc, ?_, ?_⟩, ?_, ?_, ?_⟩
  · intro r hr
    by_cases c : r = 16 + o
    · subst c
      rw [hq]
      exact ⟨a18, Nat.zero_le _, fun j v hj => by simp at hj⟩
    · exact (nQ r hr).ag (fun j => a 18 r j (fun z => by
        rcases z with z | z
        · exact absurd z.1 (by decide)
        · exact c z.2)) (fun j => hA.at 39 (by decide) r j)
  · obtain ⟨w1, w2, w3, w4⟩ := nW
    refine ⟨?_, ?_, fun t ht h2 => ?_, ?_⟩
    · simp only [hB.at 15 (by decide)]; exact w1
    · simp only [hB.at 7 (by decide)]; exact w2
    · rw [hB.at 7 (by decide)] at h2
      obtain ⟨v1, v2, v3, v4, v5, v6, ⟨v7, v8⟩⟩ := w3 t ht h2
      simp only [hB.at 15 (by decide), hB.at 51 (by decide), hB.at 13 (by decide), hB.at 14 (by decide), hA.at 17 (by decide), hA.at 15 (by decide), hA.at 16 (by decide)]
      refine ⟨v1, v2, v3, v4, v5, v6, ?_, ?_⟩
      · intro k hk
        obtain ⟨x1, x2, x3⟩ := v7 k hk
        rw [hA.at 40 (by decide), hB.at 17 (by decide)]
        refine ⟨x1, x2, fun u hu hs => ?_⟩
        have hne : u ≠ o := fun z => by
          subst z
          exact nt (th_pl m' ht h2 hk (by rw [← x1]; exact hs))
        rw [rne 22 u hne]
        exact x3 u hu hs
      · simp only [hA.at 40 (by decide)]; exact v8
    · simp only [hB.at 7 (by decide), hB.at 13 (by decide)]; exact w4
  · intro u hu
    by_cases c : u = o
    · subst c; exact Or.inr h19
    · rw [rne 19 u c]; exact nO.1 u hu
  · intro u hu hu2
    rw [hth] at hu2
    have c : u ≠ o := fun z => by subst z; exact nt hu2
    obtain ⟨x, y⟩ := nO.2 u hu hu2
    refine ⟨?_, fun z => ?_⟩
    · unfold ob_ at *
      simp only [rne _ u c, sne _ u _ c (show 22 ≠ 18 by decide), sne _ u _ c (show 26 ≠ 18 by decide), sne _ u _ c (show 27 ≠ 18 by decide), sne _ u _ c (show 28 ≠ 18 by decide), sne _ u _ c (show 29 ≠ 18 by decide), sne _ u _ c (show 30 ≠ 18 by decide), hA.at 43 (by decide), hA.at 44 (by decide), hA.at 45 (by decide), hB.at 28 (by decide), hB.at 29 (by decide), hB.at 30 (by decide)]
      exact x
    · rw [hhc] at z
      rw [sne 23 u 0 c (by decide), rne 23 u c]
      exact y z
  · intro hu t ht hs
    have htw := (nW.2.1 t).mp ht
    refine hu t ht ?_
    have sk : ∀ j, j < 3 → (sk_ ρ' t j ↔ sk_ ρ t j) := fun j hj => by
      unfold sk_
      simp only [hB.at 17 (by decide)]
      constructor
      · rintro ⟨u, z1, z2, z3⟩
        have hne : u ≠ o := fun z => by subst z; exact nt (th_pl m' htw.1 htw.2 hj z2)
        unfold sg_ at z3
        simp only [rne _ u hne] at z3
        exact ⟨u, z1, z2, z3⟩
      · rintro ⟨u, z1, z2, z3⟩
        have hne : u ≠ o := fun z => by subst z; exact nt (th_pl m' htw.1 htw.2 hj z2)
        refine ⟨u, z1, z2, ?_⟩
        unfold sg_
        simp only [rne _ u hne]
        exact z3
    unfold sat_ at *
    rw [hB.at 14 (by decide)] at hs
    rcases hs with ⟨z1, j, z2, z3⟩ | ⟨z1, z2⟩
    · exact Or.inl ⟨z1, j, z2, (sk j z2).mp z3⟩
    · refine Or.inr ⟨z1, fun j hj z => (sk j hj).mp (z2 j hj (by rw [hB.at 17 (by decide)]; exact z))⟩
  · rintro ⟨j1, j2⟩
    refine ⟨fun i hi h0 u hu h36 => ?_, fun v hv => ?_⟩
    · rw [hB.at 31 (by decide)] at h0
      rw [hB.at 36 (by decide)] at h36
      have hne : u ≠ o := fun z => by subst z; exact nt (th_tr hi h0 (Or.inr h36))
      rw [rne 22 u hne]
      exact j1 i hi h0 u hu h36
    · have hne : v % 16 ≠ o := fun z => nt (z ▸ th_in nI' hv)
      rw [rne 22 _ hne]
      exact j2 v hv
  · intro u hu hne ti
    rw [hth, hhc, rne 19 u hne, rne 23 u hne]
    exact ti u hu
/-- a free object -/
theorem s_freeObj {σ ρ : ed_S} {T P : Nat} {q : Nat → List Nat} {x1 x2 x3 x4 x6 : Int32} (m : gM σ ρ T P q) (ti : ti_ ρ T q) : ∀ (n k : Nat), 16 < n + k → k ≤ 16 → ∃ j, j ≤ 16 ∧ F_Desk_freeObject_2 n (nI k) σ = some ((if j = 16 then -1 else nI j), σ) ∧ F_Mod_create_93 n x1 x2 x3 x4 (nI k) x6 ρ = F_Mod_create_116 x1 x2 x3 x4 (nI j) x6 ρ ∧ (j < 16 → ¬ th_ ρ T q j) := by
  intro n
  induction n with
  | zero => intro k h1 h2; omega
  | succ n ih =>
    intro k h1 h2
    rcases Nat.lt_or_ge k 16 with hk | hk
    · have e1 : F_Desk_freeObject_2 (n + 1) (nI k) σ = vB2 (F_Obj_isThere k σ) fun r8 σ6 => if r8 = 0 then some (nI k, σ6) else F_Desk_freeObject_2 n (nI (k + 1)) σ6 := by
        show (if (16 : Int32) ≤ nI k then _ else _) = _
        rw [if_neg (by rw [show (16 : Int32) = nI 16 from rfl]; exact nI_ge hk (by omega)), vG_at hk (by omega), nI_1]
      have e2 : F_Mod_create_93 (n + 1) x1 x2 x3 x4 (nI k) x6 ρ = if ρ 19 0 k = 0 then F_Mod_create_116 x1 x2 x3 x4 (nI k) x6 ρ else F_Mod_create_93 n x1 x2 x3 x4 (nI (k + 1)) x6 ρ := by
        show (if (16 : Int32) ≤ nI k then _ else _) = _
        rw [if_neg (by rw [show (16 : Int32) = nI 16 from rfl]; exact nI_ge hk (by omega)), vG_at hk (by omega), nI_1]
      rcases d_there m hk with ⟨c1, c2⟩ | ⟨c1, c2⟩
      · rw [e1, e2, vB2_at c2, if_neg (by decide), if_neg (show ¬ ρ 19 0 k = 0 by rw [((ti k hk).1).mpr c1]; decide)]
        exact ih (k + 1) (by omega) (by omega)
      · have h0 : ρ 19 0 k = 0 := (m.2.2.2.2.2.2.2.2.2.2.2.2.2.1 k hk).resolve_right (fun z => c1 (((ti k hk).1).mp z))
        rw [e1, e2, vB2_at c2, if_pos rfl, if_pos h0]
        exact ⟨k, h2, by rw [if_neg (by omega)], rfl, fun _ => c1⟩
    · have hk8 : k = 16 := by omega
      subst hk8
      exact ⟨16, by omega, rfl, rfl, fun z => by omega⟩
theorem m_named0 {ρ : ed_S} : ∀ (n k : Nat), 16 < n + k → k ≤ 16 → F_Mod_named_2 n (-1) (nI k) ρ = some (-1, ρ) := by
  intro n
  induction n with
  | zero => intro k h1 h2; omega
  | succ n ih =>
    intro k h1 h2
    rcases Nat.lt_or_ge k 16 with hk | hk
    · have e2 : F_Mod_named_2 (n + 1) (-1) (nI k) ρ = F_Mod_named_2 n (-1) (nI (k + 1)) ρ := by
        show (if (16 : Int32) ≤ nI k then _ else _) = _
        rw [if_neg (by rw [show (16 : Int32) = nI 16 from rfl]; exact nI_ge hk (by omega)), vG_at hk (by omega), nI_1, if_pos (show (-1 : Int32) < 0 by decide)]
        split <;> rfl
      rw [e2]
      exact ih (k + 1) (by omega) (by omega)
    · have hk8 : k = 16 := by omega
      subst hk8
      rfl
def mb_ (ty : Nat) : Nat := if ty = 3 then 9 else if ty = 4 then 0 else if ty = 5 then 7 else 1
/-- the object is made -/
theorem s_make {σ ρ : ed_S} {T P t p h o ty v : Nat} {x3 x4 : Int32} {q : Nat → List Nat} (m : gM σ ρ T P q) (hp : p < 4) (ht : t < 8) (hr : ρ 44 0 0 = nI t) (hr5 : σ 5 0 0 = nI t) (hh : ρ 5 0 t = nI p) (h8 : h < 8) (h41 : σ 41 p h = -1) (ho : o < 16) (nt : ¬ th_ ρ T q o) (hty : ty < 6) (hv : v ≤ mb_ ty) :
    ∃ σ' ρ', (vB1 (F_Obj_begin o (nI ty) (nI v) x3 σ) fun σ17 => (if nI ty = 2 then (if nI v = 1 then (vG (nI o) 16 fun j25 => (vL (ed_st σ17 27 j25 0 (σ17 5 0 0)) fun σ29 => (vB1 (F_Desk_giveHandle p (nI h) (nI o) 7 σ29) fun σ31 => (some (nI h, σ31))))) else (vB1 (F_Desk_giveHandle p (nI h) (nI o) 7 σ17) fun σ23 => (some (nI h, σ23)))) else (vB1 (F_Desk_giveHandle p (nI h) (nI o) 7 σ17) fun σ20 => (some (nI h, σ20))))) = some (nI h, σ') ∧ F_Mod_create_116 (nI ty) (nI v) x3 x4 (nI o) (nI h) ρ = some (nI h, ρ') ∧ gM σ' ρ' T P q ∧ (ti_ ρ T q → ti_ ρ' T q) ∧ (qu_ ρ q → qu_ ρ' q) ∧ (gJ ρ q → gJ ρ' q) ∧ ag_ ρ ρ' [3, 4, 19, 20, 21, 22, 23, 24, 25, 26, 27] := by
  have hv10 : v < 10 := by unfold mb_ at hv; split at hv <;> (try split at hv) <;> (try split at hv) <;> omega
  have t2 : nI ty = 2 ↔ ty = 2 := nI_eq (b := 2) (by omega) (by omega)
  have v1 : nI v = 1 ↔ v = 1 := nI_eq (b := 1) (by omega) (by omega)
  obtain ⟨w, hw⟩ : ∃ w : Int32, w = if ty = 2 ∧ v = 1 then nI t else -1 := ⟨_, rfl⟩
  obtain ⟨s, hs⟩ : ∃ s : Int32, s = if ty < 2 ∧ v = 1 then 1 else 0 := ⟨_, rfl⟩
  obtain ⟨σ1, hσ1⟩ : ∃ z, z = ed_st (ed_st (ed_st (ed_st (ed_st (ed_st (ed_st (ed_st (ed_st σ 22 o 0 (nI ty)) 23 o 0 x3) 26 o 0 (nI v)) 27 o 0 (-1)) 28 o 0 0) 29 o 0 (-1)) 30 o 0 0) 18 (16 + o) 0 0) 27 o 0 w := ⟨_, rfl⟩
  obtain ⟨ρ1, hρ1⟩ : ∃ z, z = ed_st (ed_st (ed_st (ed_st (ed_st (ed_st (ed_st (ed_st (ed_st ρ 19 0 o 1) 22 0 o (nI ty)) 23 0 o x3) 20 0 o s) 21 0 o 0) 24 0 o (nI v)) 25 0 o w) 26 0 o 0) 27 0 o 0 := ⟨_, rfl⟩
  have a : ∀ k i j, ¬ ((k ∈ [22, 23, 26, 27, 28, 29, 30] ∧ i = o) ∨ (k = 18 ∧ i = 16 + o)) → σ1 k i j = σ k i j := fun k i j hk => by
    have hk' : ¬ ((k = 22 ∨ k = 23 ∨ k = 26 ∨ k = 27 ∨ k = 28 ∨ k = 29 ∨ k = 30) ∧ i = o) ∧ ¬ (k = 18 ∧ i = 16 + o) := by
      simp only [List.mem_cons, List.not_mem_nil, or_false] at hk
      exact ⟨fun z => hk (Or.inl z), fun z => hk (Or.inr z)⟩
    rw [hσ1, ed_st_n (by omega), ed_st_n (by omega), ed_st_n (by omega), ed_st_n (by omega), ed_st_n (by omega), ed_st_n (by omega), ed_st_n (by omega), ed_st_n (by omega), ed_st_n (by omega)]
  have b : ∀ k i j, ¬ (k ∈ [19, 20, 21, 22, 23, 24, 25, 26, 27] ∧ j = o) → ρ1 k i j = ρ k i j := fun k i j hk => by
    have hk' : ¬ ((k = 19 ∨ k = 20 ∨ k = 21 ∨ k = 22 ∨ k = 23 ∨ k = 24 ∨ k = 25 ∨ k = 26 ∨ k = 27) ∧ j = o) := by
      simp only [List.mem_cons, List.not_mem_nil, or_false] at hk
      exact hk
    rw [hρ1, ed_st_n (by omega), ed_st_n (by omega), ed_st_n (by omega), ed_st_n (by omega), ed_st_n (by omega), ed_st_n (by omega), ed_st_n (by omega), ed_st_n (by omega), ed_st_n (by omega)]
  have r19 : ρ1 19 0 o = 1 := by rw [hρ1]; simp [ed_st]
  obtain ⟨m1, k1, k2, k3⟩ := g_new (σ' := σ1) (ρ' := ρ1) m ho nt a (by rw [hσ1]; simp [ed_st]) b r19
  have s22 : σ1 22 o 0 = nI ty := by rw [hσ1]; simp [ed_st]
  have s23 : σ1 23 o 0 = x3 := by rw [hσ1]; simp [ed_st]
  have s26 : σ1 26 o 0 = nI v := by rw [hσ1]; simp [ed_st]
  have s27 : σ1 27 o 0 = w := by rw [hσ1]; simp [ed_st]
  have s28 : σ1 28 o 0 = 0 := by rw [hσ1]; simp [ed_st]
  have s29 : σ1 29 o 0 = -1 := by rw [hσ1]; simp [ed_st]
  have s30 : σ1 30 o 0 = 0 := by rw [hσ1]; simp [ed_st]
  have r22 : ρ1 22 0 o = nI ty := by rw [hρ1]; simp [ed_st]
  have r23 : ρ1 23 0 o = x3 := by rw [hρ1]; simp [ed_st]
  have r20 : ρ1 20 0 o = s := by rw [hρ1]; simp [ed_st]
  have r21 : ρ1 21 0 o = 0 := by rw [hρ1]; simp [ed_st]
  have r24 : ρ1 24 0 o = nI v := by rw [hρ1]; simp [ed_st]
  have r25 : ρ1 25 0 o = w := by rw [hρ1]; simp [ed_st]
  have r26 : ρ1 26 0 o = 0 := by rw [hρ1]; simp [ed_st]
  have r27 : ρ1 27 0 o = 0 := by rw [hρ1]; simp [ed_st]
  have hob : ob_ σ1 ρ1 o := by
    unfold ob_
    rw [s22, s26, s27, s28, s29, s30, r22, r20, r21, r24, r25, r26, r27]
    refine ⟨r19, rfl, ⟨ty, hty, rfl⟩, rfl, ?_, rfl, Or.inl rfl, fun _ => rfl, ?_, fun _ => ⟨rfl, v, hv10, rfl⟩, ?_, fun _ => Or.inl ⟨rfl, rfl⟩, rfl, ⟨0, by omega, rfl, fun k hk => by omega⟩, ?_⟩
    · rw [hw]
      split
      · exact Or.inr ⟨t, ht, rfl⟩
      · exact Or.inl rfl
    · rw [hs]
      split
      · exact Or.inr rfl
      · exact Or.inl rfl
    · intro z
      have z' : ty = 0 ∨ ty = 1 ∨ ty = 4 := by
        rcases z with z | z | z
        · exact Or.inl ((nI_eq (b := 0) (by omega) (by omega)).mp z)
        · exact Or.inr (Or.inl ((nI_eq (b := 1) (by omega) (by omega)).mp z))
        · exact Or.inr (Or.inr ((nI_eq (b := 4) (by omega) (by omega)).mp z))
      rw [hs]
      rcases z' with rfl | rfl | rfl
      · have : v = 0 ∨ v = 1 := by unfold mb_ at hv; simp at hv; omega
        rcases this with rfl | rfl <;> rfl
      · have : v = 0 ∨ v = 1 := by unfold mb_ at hv; simp at hv; omega
        rcases this with rfl | rfl <;> rfl
      · have : v = 0 := by unfold mb_ at hv; simp at hv; omega
        subst this; rfl
    · intro z
      have z' : ty = 2 := t2.mp z
      subst z'
      have : v = 0 ∨ v = 1 := by unfold mb_ at hv; simp at hv; omega
      rcases this with rfl | rfl
      · rw [hw]
        exact ⟨fun _ => rfl, fun _ => rfl⟩
      · rw [hw, if_pos ⟨rfl, rfl⟩]
        exact ⟨fun z2 => absurd z2 (nI_m1 (by omega)), fun z2 => absurd z2 (by decide)⟩
  have hr1 : ρ1 44 0 0 = nI t := by rw [b 44 0 0 (fun z => absurd z.1 (by decide))]; exact hr
  have hh1 : ρ1 5 0 t = nI p := by rw [b 5 0 t (fun z => absurd z.1 (by decide))]; exact hh
  obtain ⟨σ', ρ', f1, f2, m2, hA, hB, f3⟩ := g_give (r := 7) m1 hp ht hr1 hh1 h8 ho (by rw [a 41 p h (fun z => by rcases z with z | z; exact absurd z.1 (by decide); exact absurd z.1 (by decide))]; exact h41) hob (by rw [s23, r23])
  have hB1 : ag_ ρ ρ1 [3, 4, 19, 20, 21, 22, 23, 24, 25, 26, 27] := fun k i j hk => b k i j (fun z => hk (by have := z.1; revert this; simp; omega))
  refine ⟨σ', ρ', ?_, ?_, m2, fun ti => f3 (fun u hu hne => k3 u hu hne ti), fun z => (k1 z).ag hB (by decide) (fun _ z => z), fun z => (k2 z).ag hB (by decide) rfl, hB1.tr (hB.mo (by decide))⟩
  · unfold F_Obj_begin
    simp only [vL, vB1]
    have e27 : ∀ (X : ed_S), X 27 o 0 = -1 → ed_st X 27 o 0 (-1) = X := fun X hX => by
      funext x y z
      unfold ed_st
      split
      · next e => obtain ⟨rfl, rfl, rfl⟩ := e; exact hX.symm
      · rfl
    by_cases c1 : ty = 2
    · rw [if_pos (t2.mpr c1)]
      by_cases c2 : v = 1
      · rw [if_pos (v1.mpr c2), vG_at ho (by omega)]
        rw [ed_st_n (show ¬ (5 = 18 ∧ 0 = 16 + o ∧ 0 = 0) by omega), ed_st_n (show ¬ (5 = 30 ∧ 0 = o ∧ 0 = 0) by omega), ed_st_n (show ¬ (5 = 29 ∧ 0 = o ∧ 0 = 0) by omega), ed_st_n (show ¬ (5 = 28 ∧ 0 = o ∧ 0 = 0) by omega), ed_st_n (show ¬ (5 = 27 ∧ 0 = o ∧ 0 = 0) by omega), ed_st_n (show ¬ (5 = 26 ∧ 0 = o ∧ 0 = 0) by omega), ed_st_n (show ¬ (5 = 23 ∧ 0 = o ∧ 0 = 0) by omega), ed_st_n (show ¬ (5 = 22 ∧ 0 = o ∧ 0 = 0) by omega), hr5]
        rw [if_pos ⟨c1, c2⟩] at hw
        rw [hw] at hσ1
        rw [← hσ1, f1]
      · rw [if_neg (fun z => c2 (v1.mp z))]
        rw [if_neg (fun z => c2 z.2)] at hw
        rw [hw, e27 _ (by simp [ed_st])] at hσ1
        rw [← hσ1, f1]
    · rw [if_neg (fun z => c1 (t2.mp z))]
      rw [if_neg (fun z => c1 z.1)] at hw
      rw [hw, e27 _ (by simp [ed_st])] at hσ1
      rw [← hσ1, f1]
  · have e217 : ∀ y, y = w → F_Mod_create_217 (nI ty) (nI v) x3 x4 (nI o) (nI h) y (nI o) (ed_st (ed_st (ed_st (ed_st (ed_st (ed_st ρ 19 0 o 1) 22 0 o (nI ty)) 23 0 o x3) 20 0 o s) 21 0 o 0) 24 0 o (nI v)) = some (nI h, ρ') := fun y hy => by
      unfold F_Mod_create_217
      simp only [vG_at ho (show 16 < 2 ^ 31 by omega), vL]
      rw [hy, ← hρ1, vB2_at f2]
    have e176 : F_Mod_create_176 (nI ty) (nI v) x3 x4 (nI o) (nI h) s (nI o) (ed_st (ed_st (ed_st ρ 19 0 o 1) 22 0 o (nI ty)) 23 0 o x3) = some (nI h, ρ') := by
      unfold F_Mod_create_176
      rw [vC_at (by rw [hs]; split; exact Or.inr rfl; exact Or.inl rfl)]
      simp only [vG_at ho (show 16 < 2 ^ 31 by omega), vL]
      by_cases c1 : ty = 2
      · rw [if_pos (t2.mpr c1)]
        by_cases c2 : v = 1
        · rw [if_pos (v1.mpr c2)]
          refine e217 _ ?_
          rw [ed_st_n (show ¬ (44 = 24 ∧ 0 = 0 ∧ 0 = o) by omega), ed_st_n (show ¬ (44 = 21 ∧ 0 = 0 ∧ 0 = o) by omega), ed_st_n (show ¬ (44 = 20 ∧ 0 = 0 ∧ 0 = o) by omega), ed_st_n (show ¬ (44 = 23 ∧ 0 = 0 ∧ 0 = o) by omega), ed_st_n (show ¬ (44 = 22 ∧ 0 = 0 ∧ 0 = o) by omega), ed_st_n (show ¬ (44 = 19 ∧ 0 = 0 ∧ 0 = o) by omega), hr, hw, if_pos ⟨c1, c2⟩]
        · rw [if_neg (fun z => c2 (v1.mp z))]
          exact e217 _ (by rw [hw, if_neg (fun z => c2 z.2)])
      · rw [if_neg (fun z => c1 (t2.mp z))]
        exact e217 _ (by rw [hw, if_neg (fun z => c1 z.1)])
    unfold F_Mod_create_116
    rw [if_neg (nI_pos (by omega)), if_neg (show ¬ nI o = 16 from fun z => absurd ((nI_eq (b := 16) (by omega) (by omega)).mp z) (by omega))]
    simp only [vG_at ho (show 16 < 2 ^ 31 by omega), vL]
    by_cases c1 : ty < 2
    · rw [if_neg (by rw [show (2 : Int32) = nI 2 from rfl]; exact nI_ge c1 (by omega))]
      by_cases c2 : v = 1
      · rw [if_pos (v1.mpr c2)]
        rw [if_pos ⟨c1, c2⟩] at hs
        rw [hs] at e176; exact e176
      · rw [if_neg (fun z => c2 (v1.mp z))]
        rw [if_neg (fun z => c2 z.2)] at hs
        rw [hs] at e176; exact e176
    · rw [if_pos (by rw [show (2 : Int32) = nI 2 from rfl]; exact nI_le (by omega) (by omega))]
      rw [if_neg (fun z => c1 z.1)] at hs
      rw [hs] at e176; exact e176
theorem c_create (n : Nat) (x1 x2 x3 : Int32) (σ ρ : ed_S) (hn : n < 512) (hS : zS n σ ρ) : jt_ (zS (n + 1)) (F_Desk_create x1 x2 x3 σ) (F_Mod_create x1 x2 x3 ρ) := by
  have hS' := hS.mo
  obtain ⟨T, P, q, ⟨m, hb, hqu, hJ, hK, hL⟩, hC, ti, hl⟩ := hS
  unfold F_Desk_create F_Mod_create
  refine jt_run m hS' (fun t p hT ht hp hr hr5 hh hh8 h0 hpr H => ?_)
  rw [vB2_at (d_is _ _ _ _)]
  have hend : ∀ s0, iw_ x1 0 5 = 0 → F_Mod_create_40 x1 x2 x3 s0 ρ = some (-1, ρ) := fun s0 w => by
    unfold F_Mod_create_40
    rw [vB2_at (m_is _ _ _ _), if_pos w]
  rcases iw_c (x := x1) (b := 5) (n := 6) (by decide) (by omega) with w | ⟨ty, hty, rfl, w⟩
  · rw [if_pos w, hend _ w, hend _ w, hend _ w, hend _ w]
    have : (if (3 : Int32) ≤ x1 then (if x1 = 3 then (some ((-1 : Int32), ρ)) else (if x1 = 4 then (some (-1, ρ)) else (some (-1, ρ)))) else (some (-1, ρ))) = some (-1, ρ) := by
      split
      · split
        · rfl
        · split <;> rfl
      · rfl
    rw [this]
    exact jt_b rfl hS'
  rw [if_neg w]
  have e1 : F_Desk_mostAtFirst (nI ty) σ = some (nI (mb_ ty), σ) := by
    have : ty = 0 ∨ ty = 1 ∨ ty = 2 ∨ ty = 3 ∨ ty = 4 ∨ ty = 5 := by omega
    rcases this with rfl | rfl | rfl | rfl | rfl | rfl <;> rfl
  have e2 : (if (3 : Int32) ≤ nI ty then (if nI ty = 3 then (F_Mod_create_40 (nI ty) x2 x3 9 ρ) else (if nI ty = 4 then (F_Mod_create_40 (nI ty) x2 x3 0 ρ) else (F_Mod_create_40 (nI ty) x2 x3 7 ρ))) else (F_Mod_create_40 (nI ty) x2 x3 1 ρ)) = F_Mod_create_40 (nI ty) x2 x3 (nI (mb_ ty)) ρ := by
    have : ty = 0 ∨ ty = 1 ∨ ty = 2 ∨ ty = 3 ∨ ty = 4 ∨ ty = 5 := by omega
    rcases this with rfl | rfl | rfl | rfl | rfl | rfl
    · rw [if_neg (by decide)]; rfl
    · rw [if_neg (by decide)]; rfl
    · rw [if_neg (by decide)]; rfl
    · rw [if_pos (by decide), if_pos (by decide)]; rfl
    · rw [if_pos (by decide), if_neg (by decide), if_pos (by decide)]; rfl
    · rw [if_pos (by decide), if_neg (by decide), if_neg (by decide)]; rfl
  rw [e2, vB2_at e1, vB2_at (d_is _ _ _ _)]
  unfold F_Mod_create_40
  rw [vB2_at (m_is _ _ _ _), if_neg w, vB2_at (m_is _ _ _ _)]
  have hm9 : mb_ ty ≤ 9 := by unfold mb_; split <;> (try split) <;> (try split) <;> omega
  rcases iw_c (x := x2) (b := nI (mb_ ty)) (n := mb_ ty + 1) (by rw [nI_toInt (by omega)]; omega) (by omega) with w | ⟨v, hv, rfl, w⟩
  · rw [if_pos w, if_pos w]
    exact jt_b rfl hS'
  rw [if_neg w, if_neg w, vB2_at (d_is _ _ _ _), vB2_at (m_is _ _ _ _)]
  refine jt_if Iff.rfl (fun _ => jt_b rfl hS') (fun w3 => ?_)
  have key : jt_ (zS (n + 1)) (F_Desk_create_64 (nI ty) (nI v) x3 σ) (vB2 (F_Mod_freeHandle ρ) fun r19 σ17 => F_Mod_create_93 ed_fu (nI ty) (nI v) x3 (nI (mb_ ty)) 0 r19 σ17) := by
    unfold F_Desk_create_64
    obtain ⟨x, g1, g2, g3⟩ := s_freeHandle hp ht hr hh H ed_fu 0 (by show _ < 64 + 0; omega) (by omega)
    have g1 : F_Proc_freeHandle p σ = some (x, σ) := g1
    have g2 : F_Mod_freeHandle ρ = some (x, ρ) := g2
    obtain ⟨o, ho, k1, k2, k3⟩ := s_freeObj (x1 := nI ty) (x2 := nI v) (x3 := x3) (x4 := nI (mb_ ty)) (x6 := x) m ti ed_fu 0 (by show _ < 64 + 0; omega) (by omega)
    have k1 : F_Desk_freeObject σ = some (if o = 16 then -1 else nI o, σ) := k1
    have k2 : F_Mod_create_93 ed_fu (nI ty) (nI v) x3 (nI (mb_ ty)) 0 x ρ = F_Mod_create_116 (nI ty) (nI v) x3 (nI (mb_ ty)) (nI o) x ρ := k2
    rw [vBr_at hpr hp, vB2_at g1, vB2_at k1, vB2_at g2, k2]
    rcases g3 with rfl | ⟨h, hh8, rfl, h41⟩
    · unfold F_Mod_create_116
      rw [if_pos rfl, if_pos (show (-1 : Int32) < 0 by decide)]
      exact jt_b rfl hS'
    · rw [if_neg (nI_m1 (by omega))]
      by_cases c : o = 16
      · subst c
        unfold F_Mod_create_116
        rw [if_pos rfl, if_pos rfl, if_neg (nI_pos (by omega)), if_pos (show nI 16 = 16 from rfl)]
        exact jt_b rfl hS'
      · have ho' : o < 16 := by omega
        rw [if_neg c, if_neg (nI_m1 (by omega)), vG_at ho' (by omega)]
        obtain ⟨σ', ρ', f1, f2, m', f3, f4, f5, hB⟩ := s_make (x3 := x3) (x4 := nI (mb_ ty)) m hp ht hr hr5 hh hh8 h41 ho' (k3 ho') hty (show v ≤ mb_ ty by omega)
        rw [f1, f2]
        refine jt_b rfl (zS.keep (b := 1300 * (n + 1)) ⟨m', (hb.ag hB (by decide)).mo (by omega), f4 hqu, f5 hJ, hK.ag hB (by decide), hL.ag hB (by decide)⟩ (Nat.le_refl _) hC (hB.at 46 (by decide) 0 0) (f3 ti) (fun z => ?_))
        rw [hB.at 47 (by decide)] at z
        obtain ⟨z1, z2, z3⟩ := hl z
        exact ⟨z1.ag hB (by decide), z2, z3.ag hB (by decide)⟩
  by_cases c : x3 = -1
  · subst c
    have f : F_Mod_named (-1) ρ = some (-1, ρ) := m_named0 ed_fu 0 (by show _ < 64 + 0; omega) (by omega)
    rw [if_pos rfl, vB2_at f, if_pos (show (-1 : Int32) < 0 by decide)]
    exact key
  · rw [if_neg c]
    have hx : ¬ x3 < 0 := fun z => by
      unfold iw_ at w3
      have : ¬ x3 < -1 := fun y => w3 (by rw [if_pos y])
      rw [Int32.lt_iff_toInt_lt] at z this
      have e1 : (-1 : Int32).toInt = -1 := by decide
      have e0 : (0 : Int32).toInt = 0 := by decide
      exact c (Int32.toInt_inj.mp (by omega))
    obtain ⟨y, e1, e2, e3⟩ := s_named m ti hx ed_fu 0 (by show _ < 64 + 0; omega) (by omega)
    have e1 : F_Desk_objectNamed x3 σ = some (y, σ) := e1
    have e2 : F_Mod_named x3 ρ = some (y, ρ) := e2
    rw [vB2_at e1, vB2_at e2]
    rcases e3 with rfl | ⟨o, ho, rfl, hco⟩
    · rw [if_pos rfl, if_pos (show (-1 : Int32) < 0 by decide)]
      exact key
    · rw [if_neg (nI_m1 (by omega)), if_neg (nI_pos (by omega))]
      exact jt_b rfl hS'
