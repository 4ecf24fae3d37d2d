/-- what taking does: some fields of some objects, and the relation of objects is kept -/
def te_ (t : Nat) (σ ρ σ' ρ' : ed_S) : Prop := ag_ σ σ' [26, 27, 28] ∧ ag_ ρ ρ' [20, 21, 24, 25] ∧ (∀ o, o < 16 → ob_ σ ρ o → ob_ σ' ρ' o) ∧ ∀ u o, u < 8 → u ≠ t → o < 16 → sg_ ρ' o u → sg_ ρ o u
theorem te_.rf {t : Nat} {σ ρ : ed_S} : te_ t σ ρ σ ρ := ⟨ag_.rf, ag_.rf, fun _ _ h => h, fun _ _ _ _ _ h => h⟩
theorem te_.tr {t : Nat} {σ ρ σ1 ρ1 σ2 ρ2 : ed_S} (h : te_ t σ ρ σ1 ρ1) (h2 : te_ t σ1 ρ1 σ2 ρ2) : te_ t σ ρ σ2 ρ2 := ⟨h.1.tr h2.1, h.2.1.tr h2.2.1, fun o ho z => h2.2.2.1 o ho (h.2.2.1 o ho z), fun u o hu ht ho z => h.2.2.2 u o hu ht ho (h2.2.2.2 u o hu ht ho z)⟩
theorem ob_.ne {σ ρ σ' ρ' : ed_S} {o u : Nat} (h : ob_ σ ρ u) (hu : u ≠ o) (a : ag_ σ σ' [26, 27, 28]) (b : ag_ ρ ρ' [20, 21, 24, 25]) (h1 : ∀ k i j, i ≠ o → σ' k i j = σ k i j) (h2 : ∀ k j, j ≠ o → ρ' k 0 j = ρ k 0 j) : ob_ σ' ρ' u := by
  obtain ⟨x1, x2, x3, x4, x5, x6, x7, x8, x9, x10, x11, x12, x13, x14, x15⟩ := id h
  refine h.put a b ?_ ?_ ?_ ?_ ?_ ?_ ?_ ?_ ?_
  · rw [h1 27 u 0 hu, h2 25 u hu]; exact x4
  · rw [h2 25 u hu]; exact x5
  · rw [h1 28 u 0 hu, h2 21 u hu]; exact x6
  · rw [h2 21 u hu]; exact x7
  · rw [h2 21 u hu]; exact x8
  · rw [h2 20 u hu]; exact x9
  · rw [h1 26 u 0 hu, h2 24 u hu]; exact x10
  · rw [h1 26 u 0 hu, h2 20 u hu]; exact x11
  · rw [h2 25 u hu, h2 24 u hu]; exact x15
theorem sg_ne {ρ ρ' : ed_S} {o u t : Nat} (hu : u ≠ o) (b : ag_ ρ ρ' [20, 21, 24, 25]) (h2 : ∀ k j, j ≠ o → ρ' k 0 j = ρ k 0 j) : sg_ ρ' u t ↔ sg_ ρ u t := by
  unfold sg_
  rw [b.at 22 (by decide), h2 24 u hu, h2 25 u hu, h2 20 u hu]
theorem te_.of {t : Nat} {σ ρ σ' ρ' : ed_S} {o : Nat} (h0 : ob_ σ' ρ' o) (a : ag_ σ σ' [26, 27, 28]) (b : ag_ ρ ρ' [20, 21, 24, 25]) (h1 : ∀ k i j, i ≠ o → σ' k i j = σ k i j) (h2 : ∀ k j, j ≠ o → ρ' k 0 j = ρ k 0 j) (h3 : ∀ u, u < 8 → u ≠ t → sg_ ρ' o u → sg_ ρ o u) : te_ t σ ρ σ' ρ' := ⟨a, b, fun u hu h => by
  by_cases c : u = o
  · subst c; exact h0
  · exact h.ne c a b h1 h2, fun u x hu ht hx z => by
  by_cases c : x = o
  · subst c; exact h3 u hu ht z
  · exact (sg_ne c b h2).mp z⟩
/-- the class asks whether all places are signaled -/
theorem d_all {σ ρ : ed_S} {t : Nat} (ht : t < 8) (hp : pl_ σ ρ t) (ho : po_ σ ρ t) : ∀ (m k n : Nat), k + m = 3 → m < n → ((∀ j, k ≤ j → j < 3 → ¬ σ 40 t j = -1 → sk_ ρ t j) ∧ F_Desk_satisfyAll_2 n (nI t) (nI k) σ = F_Desk_satisfyAll_50 ed_fu (nI t) 0 0 σ) ∨ ((∃ j, k ≤ j ∧ j < 3 ∧ ¬ σ 40 t j = -1 ∧ ¬ sk_ ρ t j) ∧ F_Desk_satisfyAll_2 n (nI t) (nI k) σ = some (-10, σ)) := by
  intro m
  induction m with
  | zero =>
    intro k n h1 h2
    obtain ⟨n, rfl⟩ : ∃ z, n = z + 1 := ⟨n - 1, by omega⟩
    have hk : k = 3 := by omega
    subst hk
    refine Or.inl ⟨fun j h3 h4 => by omega, ?_⟩
    show (if (3 : Int32) ≤ nI 3 then _ else _) = _
    rw [if_pos (by decide)]
  | succ m ih =>
    intro k n h1 h2
    obtain ⟨n, rfl⟩ : ∃ z, n = z + 1 := ⟨n - 1, by omega⟩
    have hk : k < 3 := by omega
    obtain ⟨p1, p2, p3⟩ := hp.1 k hk
    have e : F_Desk_satisfyAll_2 (n + 1) (nI t) (nI k) σ = if σ 40 t k = -1 then F_Desk_satisfyAll_2 n (nI t) (nI (k + 1)) σ else (vG (σ 40 t k) 16 fun j11 => (vB2 (F_Obj_isSignaledFor j11 (nI t) σ) fun r17 σ15 => (if r17 = 0 then (some ((-10), σ15)) else ((F_Desk_satisfyAll_2 n) (nI t) (nI (k + 1)) σ15)))) := by
      show (if (3 : Int32) ≤ nI k then _ else _) = _
      rw [if_neg (by rw [show (3 : Int32) = nI 3 from rfl]; exact nI_ge hk (by omega)), vG_at ht (by omega), vG_at hk (by omega), nI_1]
    rw [e]
    have next : (¬ σ 40 t k = -1 → sk_ ρ t k) → F_Desk_satisfyAll_2 (n + 1) (nI t) (nI k) σ = F_Desk_satisfyAll_2 n (nI t) (nI (k + 1)) σ → ((∀ j, k ≤ j → j < 3 → ¬ σ 40 t j = -1 → sk_ ρ t j) ∧ F_Desk_satisfyAll_2 n (nI t) (nI (k + 1)) σ = F_Desk_satisfyAll_50 ed_fu (nI t) 0 0 σ) ∨ ((∃ j, k ≤ j ∧ j < 3 ∧ ¬ σ 40 t j = -1 ∧ ¬ sk_ ρ t j) ∧ F_Desk_satisfyAll_2 n (nI t) (nI (k + 1)) σ = some (-10, σ)) := fun hs _ => by
      rcases ih (k + 1) n (by omega) (by omega) with ⟨w1, w2⟩ | ⟨⟨j, w1, w3, w4, w5⟩, w2⟩
      · refine Or.inl ⟨fun j h3 h4 h5 => ?_, w2⟩
        by_cases c : j = k
        · subst c; exact hs h5
        · exact w1 j (by omega) h4 h5
      · exact Or.inr ⟨⟨j, by omega, w3, w4, w5⟩, w2⟩
    rcases p2 with p2 | ⟨o, ho16, p2⟩
    · rw [if_pos p2]
      exact next (fun z => absurd p2 z) (by rw [e, if_pos p2])
    · have hne : ¬ σ 40 t k = -1 := by rw [p2]; exact nI_m1 (by omega)
      rcases s_sig (t := t) ho16 (ho k o hk ho16 p2) (p3 o ho16 p2) with ⟨s1, s2, s3⟩ | ⟨s1, s2, s3⟩
      · have e2 : (if σ 40 t k = -1 then F_Desk_satisfyAll_2 n (nI t) (nI (k + 1)) σ else (vG (σ 40 t k) 16 fun j11 => (vB2 (F_Obj_isSignaledFor j11 (nI t) σ) fun r17 σ15 => (if r17 = 0 then (some ((-10), σ15)) else ((F_Desk_satisfyAll_2 n) (nI t) (nI (k + 1)) σ15))))) = F_Desk_satisfyAll_2 n (nI t) (nI (k + 1)) σ := by
          rw [if_neg hne, p2, vG_at ho16 (by omega), vB2_at s2, if_neg (by decide)]
        rw [e2]
        exact next (fun _ => ⟨o, ho16, by rw [← p1]; exact p2, s1⟩) (by rw [e, e2])
      · right
        rw [if_neg hne, p2, vG_at ho16 (by omega), vB2_at s2, if_pos rfl]
        refine ⟨⟨k, Nat.le_refl _, hk, by rw [p2]; exact nI_m1 (by omega), ?_⟩, rfl⟩
        rintro ⟨o', ho', z, zs⟩
        rw [← p1, p2] at z
        have := (nI_eq (by omega) (by omega)).mp z
        subst this
        exact s1 zs
/-- both sides take all places from k on -/
theorem s_takes {t : Nat} (ht : t < 8) (a g : Nat) (f : Int32) : ∀ (m k n : Nat) (σ ρ : ed_S) (c : Int32), k + m = 3 → m < n → pl_ σ ρ t → po_ σ ρ t → (∀ j, k ≤ j → j < 3 → ¬ σ 40 t j = -1 → sk_ ρ t j) → (c = 0 ∨ c = 1) →
    ∃ σ' ρ' r, F_Desk_satisfyAll_50 n (nI t) c (nI k) σ = some (r, σ') ∧ F_Mod_satisfy_124 n (nI t) (nI a) (nI g) f (if c = 0 then 0 else 16) (nI k) ρ = some (r, ρ') ∧ (r = 0 ∨ r = 16) ∧ te_ t σ ρ σ' ρ' := by
  intro m
  induction m with
  | zero =>
    intro k n σ ρ c h1 h2 hp ho hs hc
    obtain ⟨n, rfl⟩ : ∃ z, n = z + 1 := ⟨n - 1, by omega⟩
    have hk : k = 3 := by omega
    subst hk
    refine ⟨σ, ρ, if c = 0 then 0 else 16, ?_, rfl, ?_, te_.rf⟩
    · show (if c = 0 then some ((0 : Int32), σ) else some (16, σ)) = _
      split <;> rfl
    · split
      · exact Or.inl rfl
      · exact Or.inr rfl
  | succ m ih =>
    intro k n σ ρ c h1 h2 hp ho hs hc
    obtain ⟨n, rfl⟩ : ∃ z, n = z + 1 := ⟨n - 1, by omega⟩
    have hk : k < 3 := by omega
    obtain ⟨p1, p2, p3⟩ := hp.1 k hk
    have eC : F_Desk_satisfyAll_50 (n + 1) (nI t) c (nI k) σ = if σ 40 t k = -1 then F_Desk_satisfyAll_50 n (nI t) c (nI (k + 1)) σ else (vG (σ 40 t k) 16 fun j12 => (vB2 (F_Obj_take j12 (nI t) σ) fun r18 σ16 => (if r18 = 0 then ((F_Desk_satisfyAll_50 n) (nI t) c (nI (k + 1)) σ16) else ((F_Desk_satisfyAll_50 n) (nI t) 1 (nI (k + 1)) σ16)))) := by
      show (if (3 : Int32) ≤ nI k then _ else _) = _
      rw [if_neg (by rw [show (3 : Int32) = nI 3 from rfl]; exact nI_ge hk (by omega)), vG_at ht (by omega), vG_at hk (by omega), nI_1]
    have eR : ∀ y : Int32, F_Mod_satisfy_124 (n + 1) (nI t) (nI a) (nI g) f y (nI k) ρ = if ρ 17 0 (3 * t + k) < 0 then F_Mod_satisfy_124 n (nI t) (nI a) (nI g) f y (nI (k + 1)) ρ else (vB2 (F_Mod_take (ρ 17 0 (3 * t + k)) (nI t) ρ) fun r13 σ11 => ((F_Mod_satisfy_124 n) (nI t) (nI a) (nI g) f (y ||| r13) (nI (k + 1)) σ11)) := fun y => by
      show (if (3 : Int32) ≤ nI k then _ else _) = _
      rw [if_neg (by rw [show (3 : Int32) = nI 3 from rfl]; exact nI_ge hk (by omega)), ix3, vG_at (by omega) (by omega), vG_at (by omega) (by omega), nI_1]
    rw [eC, eR, ← p1]
    rcases p2 with p2 | ⟨o, ho16, p2⟩
    · rw [if_pos p2, p2, if_pos (by decide)]
      exact ih (k + 1) n σ ρ c (by omega) (by omega) hp ho (fun j h3 h4 => hs j (by omega) h4) hc
    · have hne : ¬ σ 40 t k = -1 := by rw [p2]; exact nI_m1 (by omega)
      obtain ⟨o', ho', z, zs⟩ := hs k (Nat.le_refl _) hk hne
      rw [← p1, p2] at z
      have hoo := (nI_eq (by omega) (by omega)).mp z
      subst hoo
      obtain ⟨σ1, ρ1, b, t1, t2, t3, t4, t5, t6, t7, t8, t9⟩ := s_take (t := t) ho16 ht (ho k o hk ho16 p2) (p3 o ho16 p2) zs
      have hte := te_.of t4 t5 t6 t7 t8 t9
      rw [if_neg hne, p2, vG_at ho16 (by omega), vB2_at t1, if_neg (nI_pos (by omega)), vB2_at t2]
      have hp1 : pl_ σ1 ρ1 t := by
        unfold pl_ at *
        simp only [t5.at 40 (by decide), t6.at 17 (by decide), t6.at 22 (by decide)]
        exact hp
      have ho1 : po_ σ1 ρ1 t := fun k' o' h3 h4 h5 => hte.2.2.1 o' h4 (ho k' o' h3 h4 (by rw [← t5.at 40 (by decide)]; exact h5))
      have hs1 : ∀ j, k + 1 ≤ j → j < 3 → ¬ σ1 40 t j = -1 → sk_ ρ1 t j := fun j h3 h4 h5 => by
        rw [t5.at 40 (by decide)] at h5
        obtain ⟨o2, ho2, y1, y2⟩ := hs j (by omega) h4 h5
        have hne2 : o2 ≠ o := fun w => by
          subst w
          exact h5 (hp.2 j k h4 hk (by omega) (by rw [(hp.1 j h4).1, y1, p2]))
        exact ⟨o2, ho2, by rw [t6.at 17 (by decide)]; exact y1, (sg_ne hne2 t6 t8).mpr y2⟩
      rcases t3 with t3 | t3
      · subst t3
        rw [if_pos rfl]
        have hor : ((if c = 0 then (0 : Int32) else 16) ||| (if (0 : Int32) = 0 then 0 else 16)) = if c = 0 then 0 else 16 := by
          rcases hc with rfl | rfl <;> decide
        rw [hor]
        obtain ⟨σ', ρ', r, q1, q2, q3, q4⟩ := ih (k + 1) n σ1 ρ1 c (by omega) (by omega) hp1 ho1 hs1 hc
        exact ⟨σ', ρ', r, q1, q2, q3, hte.tr q4⟩
      · subst t3
        rw [if_neg (by decide)]
        have hor : ((if c = 0 then (0 : Int32) else 16) ||| (if (1 : Int32) = 0 then 0 else 16)) = if (1 : Int32) = 0 then 0 else 16 := by
          rcases hc with rfl | rfl <;> decide
        rw [hor]
        obtain ⟨σ', ρ', r, q1, q2, q3, q4⟩ := ih (k + 1) n σ1 ρ1 1 (by omega) (by omega) hp1 ho1 hs1 (Or.inr rfl)
        exact ⟨σ', ρ', r, q1, q2, q3, hte.tr q4⟩

/-- the wait of t can be satisfied -/
def sat_ (ρ : ed_S) (t : Nat) : Prop := ((ρ 14 0 t &&& 1) = 0 ∧ ∃ j, j < 3 ∧ sk_ ρ t j) ∨ (¬ (ρ 14 0 t &&& 1) = 0 ∧ ∀ j, j < 3 → ¬ ρ 17 0 (3 * t + j) = -1 → sk_ ρ t j)
/-- satisfy, both sides -/
theorem s_sat {σ ρ : ed_S} {t : Nat} (ht : t < 8) (hp : pl_ σ ρ t) (ho : po_ σ ρ t) (hy : σ 15 t 0 = 0 ↔ (ρ 14 0 t &&& 1) = 0) :
    (¬ sat_ ρ t ∧ F_Desk_satisfy (nI t) σ = some (-10, σ) ∧ F_Mod_satisfy (nI t) ρ = some (-1, ρ)) ∨ (sat_ ρ t ∧ ∃ v σ' ρ', v < 32 ∧ F_Desk_satisfy (nI t) σ = some (nI v, σ') ∧ F_Mod_satisfy (nI t) ρ = some (nI v, ρ') ∧ te_ t σ ρ σ' ρ') := by
  by_cases c : (ρ 14 0 t &&& 1) = 0
  · have eC : F_Desk_satisfy (nI t) σ = F_Desk_satisfyAny (nI t) σ := by
      unfold F_Desk_satisfy
      rw [vG_at ht (by omega), if_pos (hy.mpr c)]
      cases F_Desk_satisfyAny (nI t) σ <;> rfl
    rw [eC]
    rcases s_any ht hp ho c with ⟨h1, h2, h3⟩ | ⟨j, o, r, σ', ρ', h1, h2, h3, h4, h5, h6, h7, h8, h9, h10, h11, h12, h13⟩
    · refine Or.inl ⟨fun w => ?_, h2, h3⟩
      rcases w with ⟨_, j, w1, w2⟩ | w
      · exact h1 j w1 w2
      · exact w.1 c
    · refine Or.inr ⟨Or.inl ⟨c, j, h1, o, h2, h3, h4⟩, ?_⟩
      rcases h5 with e | e
      · subst e
        exact ⟨j, σ', ρ', by omega, h6, h7, te_.of h8 h9 h10 h11 h12 h13⟩
      · subst e
        exact ⟨j + 16, σ', ρ', by omega, h6, h7, te_.of h8 h9 h10 h11 h12 h13⟩
  · have eC : F_Desk_satisfy (nI t) σ = F_Desk_satisfyAll (nI t) σ := by
      unfold F_Desk_satisfy
      rw [vG_at ht (by omega), if_neg (fun w => c (hy.mp w))]
      cases F_Desk_satisfyAll (nI t) σ <;> rfl
    have eC2 : F_Desk_satisfyAll (nI t) σ = F_Desk_satisfyAll_2 ed_fu (nI t) (nI 0) σ := rfl
    obtain ⟨a, g, f, hj, eR⟩ := m_satisfy ht hp ho
    rw [if_neg c] at eR
    rw [eC, eC2]
    rcases d_all ht hp ho 3 0 ed_fu (by omega) (by show 3 < 64; omega) with ⟨h1, h2⟩ | ⟨⟨j, h1, h3, h4, h5⟩, h2⟩
    · have hall : ∀ j, j < 3 → ¬ ρ 17 0 (3 * t + j) = -1 → sk_ ρ t j := fun j hj3 z => h1 j (Nat.zero_le _) hj3 (by rw [(hp.1 j hj3).1]; exact z)
      have hga : g = a := hj.2.2.1.mpr hall
      have ha3 := hj.2.1
      obtain ⟨σ', ρ', r, q1, q2, q3, q4⟩ := s_takes ht a g f 3 0 ed_fu σ ρ 0 (by omega) (by show 3 < 64; omega) hp ho h1 (Or.inl rfl)
      rw [if_pos (by rw [hga]; exact nI_le (Nat.le_refl _) (by omega))] at eR
      refine Or.inr ⟨Or.inr ⟨c, hall⟩, ?_⟩
      rcases q3 with q3 | q3
      · subst q3
        exact ⟨0, σ', ρ', by omega, h2.trans q1, eR.trans q2, q4⟩
      · subst q3
        exact ⟨16, σ', ρ', by omega, h2.trans q1, eR.trans q2, q4⟩
    · have hnall : ¬ ∀ j, j < 3 → ¬ ρ 17 0 (3 * t + j) = -1 → sk_ ρ t j := fun w => h5 (w j h3 (by rw [← (hp.1 j h3).1]; exact h4))
      have hga : g ≠ a := fun w => hnall (hj.2.2.1.mp w)
      have ha1 := hj.1
      have ha3 := hj.2.1
      rw [if_neg (nI_ge (by omega) (by omega))] at eR
      refine Or.inl ⟨fun w => ?_, h2, eR⟩
      rcases w with w | w
      · exact c w.1
      · exact hnall w.2
