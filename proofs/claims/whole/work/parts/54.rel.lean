/-! ===== the pure part: the relation in the middle of a call ===== -/
/-- q r: the list in row r of the class (0..7 calls of a thread, 8+p ready, 16+o a device's, 32 waiting, 33 interrupts) -/
def gQ (σ : ed_S) (q : Nat → List Nat) : Prop := ∀ r, r < 34 → rw_ σ r (q r)
def gA (σ ρ : ed_S) (T P : Nat) : Prop := P ≤ 4 ∧ T ≤ 8 ∧ σ 0 0 0 = nI P ∧ ρ 42 0 0 = nI P ∧ σ 1 0 0 = nI T ∧ ρ 43 0 0 = nI T ∧ σ 2 0 0 = ρ 50 0 0 ∧ σ 3 0 0 = ρ 46 0 0 ∧ σ 4 0 0 = ρ 47 0 0 ∧ (ρ 47 0 0 = 0 ∨ ρ 47 0 0 = 1) ∧ σ 5 0 0 = ρ 44 0 0 ∧ σ 6 0 0 = ρ 45 0 0 ∧ σ 7 0 0 = ρ 49 0 0
def gT (σ ρ : ed_S) (T P : Nat) : Prop := ∀ t, t < T → σ 8 t 0 = ρ 5 0 t ∧ σ 9 t 0 = ρ 6 0 t ∧ σ 10 t 0 = ρ 7 0 t ∧ σ 11 t 0 = ρ 8 0 t ∧ σ 12 t 0 = ρ 10 0 t ∧ σ 13 t 0 = ρ 11 0 t ∧ σ 14 t 0 = ρ 12 0 t ∧ (∃ p, p < P ∧ ρ 5 0 t = nI p) ∧ (∃ p, p < 8 ∧ ρ 6 0 t = nI p)
def gU (σ ρ : ed_S) (T : Nat) (q : Nat → List Nat) : Prop := ∀ t, T ≤ t → t < 8 → σ 11 t 0 = -10 ∧ σ 12 t 0 = 0 ∧ σ 13 t 0 = 0 ∧ σ 14 t 0 = 0 ∧ ρ 9 0 t = 0 ∧ ρ 10 0 t = 0 ∧ ρ 11 0 t = 0 ∧ ρ 12 0 t = 0 ∧ q t = []
/-- who runs -/
def gR (ρ : ed_S) (T : Nat) : Prop := (ρ 44 0 0 = -1 ∧ ∀ t, t < T → ¬ ρ 7 0 t = 0) ∨ ∃ t, t < T ∧ ρ 44 0 0 = nI t ∧ ∀ u, u < T → (ρ 7 0 u = 0 ↔ u = t)
def gC (ρ : ed_S) (T : Nat) (q : Nat → List Nat) : Prop := ∀ t, t < T → ρ 9 0 t = nI (q t).length ∧ ∀ j v, (q t)[j]? = some v → ρ 18 0 (4 * t + j) = nI v
/-- the places of a wait: objects that are no devices, all different -/
def pl_ (σ ρ : ed_S) (t : Nat) : Prop := (∀ k, k < 3 → σ 40 t k = ρ 17 0 (3 * t + k) ∧ oi_ (σ 40 t k) 16 ∧ ∀ o, o < 16 → σ 40 t k = nI o → ¬ ρ 22 0 o = 5) ∧ ∀ k k', k < 3 → k' < 3 → k ≠ k' → σ 40 t k = σ 40 t k' → σ 40 t k = -1
/-- the threads that wait -/
def gW (σ ρ : ed_S) (T : Nat) (q : Nat → List Nat) : Prop := (q 32).Pairwise (fun a b => ρ 15 0 a < ρ 15 0 b) ∧ (∀ t, t ∈ q 32 ↔ t < T ∧ ρ 7 0 t = 2) ∧ (∀ t, t < T → ρ 7 0 t = 2 → -1 < ρ 15 0 t ∧ ρ 15 0 t ≤ ρ 51 0 0 ∧ σ 17 t 0 = ρ 13 0 t ∧ (ρ 13 0 t = -1 ∨ 0 ≤ ρ 13 0 t) ∧ (σ 15 t 0 = 0 ↔ ρ 14 0 t &&& 1 = 0) ∧ (σ 16 t 0 = 0 ↔ ρ 14 0 t < 2) ∧ pl_ σ ρ t) ∧ ∀ t, t < T → ¬ ρ 7 0 t = 2 → ρ 13 0 t = -1
/-- the threads that are ready -/
def gD (ρ : ed_S) (T : Nat) (q : Nat → List Nat) : Prop := (∀ p, p < 8 → (q (8 + p)).Pairwise (fun a b => ρ 16 0 a < ρ 16 0 b) ∧ ∀ t, t ∈ q (8 + p) ↔ t < T ∧ ρ 7 0 t = 1 ∧ ρ 6 0 t = nI p) ∧ ∀ t, t < T → ρ 7 0 t = 1 → ρ 52 0 0 ≤ ρ 16 0 t ∧ ρ 16 0 t ≤ ρ 51 0 0
/-- transfers -/
def gX (σ ρ : ed_S) : Prop := ∀ i, i < 8 → σ 31 i 0 = ρ 31 0 i ∧ σ 32 i 0 = ρ 32 0 i ∧ σ 33 i 0 = ρ 33 0 i ∧ σ 34 i 0 = ρ 34 0 i ∧ σ 35 i 0 = ρ 35 0 i ∧ σ 36 i 0 = ρ 36 0 i ∧ σ 37 i 0 = ρ 38 0 i ∧ σ 38 i 0 = ρ 39 0 i ∧ oi_ (ρ 31 0 i) 6 ∧ (ρ 38 0 i = 0 ∨ ρ 38 0 i = 1) ∧ (ρ 39 0 i = 0 ∨ ρ 39 0 i = 1) ∧ (ρ 31 0 i = 0 → (∃ o, o < 16 ∧ ρ 34 0 i = nI o) ∧ oi_ (ρ 36 0 i) 16 ∧ ρ 37 0 i ≤ ρ 51 0 0)
def gV (ρ : ed_S) (q : Nat → List Nat) : Prop := ∀ o, o < 16 → (q (16 + o)).Pairwise (fun a b => ρ 37 0 a < ρ 37 0 b) ∧ ∀ i, i ∈ q (16 + o) ↔ i < 8 ∧ ρ 31 0 i = 0 ∧ ρ 34 0 i = nI o
def gI (ρ : ed_S) (q : Nat → List Nat) : Prop := ρ 48 0 0 = nI (q 33).length ∧ ∀ j v, (q 33)[j]? = some v → v < 32 ∧ ρ 40 0 j = nI (v % 16) ∧ ρ 41 0 j = if v < 16 then 0 else 1
def gP (σ ρ : ed_S) : Prop := ∀ p, p < 4 → σ 19 p 0 = ρ 0 0 p ∧ σ 20 p 0 = ρ 2 0 p ∧ σ 21 p 0 = ρ 1 0 p ∧ hd_ σ ρ p
def gH (σ ρ : ed_S) (T : Nat) (q : Nat → List Nat) : Prop := ∀ o, o < 16 → σ 24 o 0 = nI (hc_ ρ (nI o)) ∧ σ 25 o 0 = nI (pc_ ρ T (q 33).length (nI o))
/-- the class has object o -/
def th_ (ρ : ed_S) (T : Nat) (q : Nat → List Nat) (o : Nat) : Prop := ¬ (hc_ ρ (nI o) = 0 ∧ pc_ ρ T (q 33).length (nI o) = 0)
/-- an object on both sides -/
def ob_ (σ ρ : ed_S) (o : Nat) : Prop := ρ 19 0 o = 1 ∧ σ 22 o 0 = ρ 22 0 o ∧ (∃ y, y < 6 ∧ ρ 22 0 o = nI y) ∧ σ 27 o 0 = ρ 25 0 o ∧ oi_ (ρ 25 0 o) 8 ∧ σ 28 o 0 = ρ 21 0 o ∧ (ρ 21 0 o = 0 ∨ ρ 21 0 o = 1) ∧ (¬ ρ 22 0 o = 2 → ρ 21 0 o = 0) ∧ (ρ 20 0 o = 0 ∨ ρ 20 0 o = 1) ∧ ((ρ 22 0 o = 2 ∨ ρ 22 0 o = 3 ∨ ρ 22 0 o = 5) → σ 26 o 0 = ρ 24 0 o ∧ ∃ c, c < 10 ∧ ρ 24 0 o = nI c) ∧ ((ρ 22 0 o = 0 ∨ ρ 22 0 o = 1 ∨ ρ 22 0 o = 4) → σ 26 o 0 = ρ 20 0 o) ∧ (ρ 22 0 o = 4 → (σ 29 o 0 = -1 ∧ ρ 26 0 o = 0) ∨ (σ 29 o 0 = ρ 26 0 o ∧ 0 < ρ 26 0 o)) ∧ σ 30 o 0 = ρ 27 0 o ∧ (∃ z, z ≤ 4 ∧ ρ 27 0 o = nI z ∧ ∀ k, k < z → σ 43 o k = ρ 28 0 (4 * o + k) ∧ σ 44 o k = ρ 29 0 (4 * o + k) ∧ σ 45 o k = ρ 30 0 (4 * o + k)) ∧ (ρ 22 0 o = 2 → (ρ 25 0 o = -1 ↔ ρ 24 0 o = 0))
def gO (σ ρ : ed_S) (T : Nat) (q : Nat → List Nat) : Prop := (∀ o, o < 16 → ρ 19 0 o = 0 ∨ ρ 19 0 o = 1) ∧ ∀ o, o < 16 → th_ ρ T q o → ob_ σ ρ o ∧ (¬ hc_ ρ (nI o) = 0 → σ 23 o 0 = ρ 23 0 o)
/-- the relation in the middle of a call -/
def gM (σ ρ : ed_S) (T P : Nat) (q : Nat → List Nat) : Prop := gQ σ q ∧ gA σ ρ T P ∧ gT σ ρ T P ∧ gU σ ρ T q ∧ gR ρ T ∧ gC ρ T q ∧ gW σ ρ T q ∧ gD ρ T q ∧ gX σ ρ ∧ gV ρ q ∧ gI ρ q ∧ gP σ ρ ∧ gH σ ρ T q ∧ gO σ ρ T q
/-- the class's best priority -/
theorem d_best_3 {σ : ed_S} {q : Nat → List Nat} (hq : gQ σ q) : ∀ (k n : Nat), k ≤ 8 → k < n → (∀ p, k ≤ p → p < 8 → q (8 + p) = []) → ∃ x, F_Sched_bestPriority_3 n (nI k - 1) σ = some (x, σ) ∧ ((x = -1 ∧ ∀ p, p < 8 → q (8 + p) = []) ∨ ∃ p, p < 8 ∧ x = nI p ∧ q (8 + p) ≠ [] ∧ ∀ p', p < p' → p' < 8 → q (8 + p') = []) := by
  intro k
  induction k with
  | zero =>
    intro n h1 h2 h3
    obtain ⟨n, rfl⟩ : ∃ z, n = z + 1 := ⟨n - 1, by omega⟩
    exact ⟨-1, rfl, Or.inl ⟨rfl, fun p hp => h3 p (Nat.zero_le _) hp⟩⟩
  | succ k ih =>
    intro n h1 h2 h3
    obtain ⟨n, rfl⟩ : ∃ z, n = z + 1 := ⟨n - 1, by omega⟩
    have hr := hq (8 + k) (by omega)
    have e : F_Sched_bestPriority_3 (n + 1) (nI (k + 1) - 1) σ = if nI (q (8 + k)).length ≤ 0 then F_Sched_bestPriority_3 n (nI k - 1) σ else some (nI k, σ) := by
      rw [nI_pred]
      show (if nI k < 0 then _ else _) = _
      rw [if_neg (nI_pos (by omega)), vG_at (by omega) (by omega), hr.1]
      rw [Int32.sub_eq_add_neg]
    rw [e]
    by_cases c : q (8 + k) = []
    · rw [c, if_pos (by decide)]
      exact ih n (by omega) (by omega) (fun p hp hp2 => by
        by_cases z : p = k
        · rw [z]; exact c
        · exact h3 p (by omega) hp2)
    · have hl : 0 < (q (8 + k)).length := List.length_pos_iff.mpr c
      have c8 := ed_cap8 (8 + k)
      have hl2 := hr.2.1
      rw [if_neg (nI_nle hl (by omega))]
      exact ⟨nI k, rfl, Or.inr ⟨k, by omega, rfl, c, fun p' hp hp2 => h3 p' (by omega) hp2⟩⟩
theorem d_best {σ : ed_S} {q : Nat → List Nat} (hq : gQ σ q) : ∃ x, F_Sched_bestPriority σ = some (x, σ) ∧ ((x = -1 ∧ ∀ p, p < 8 → q (8 + p) = []) ∨ ∃ p, p < 8 ∧ x = nI p ∧ q (8 + p) ≠ [] ∧ ∀ p', p < p' → p' < 8 → q (8 + p') = []) :=
  d_best_3 hq 8 ed_fu (by omega) (by show 8 < 64; omega) (fun p h1 h2 => by omega)
theorem lt_irr (a : Int32) : ¬ a < a := by
  rw [Int32.lt_iff_toInt_lt]
  omega
theorem lt_asym {a b : Int32} (h : a < b) : ¬ b ≤ a := by
  rw [Int32.lt_iff_toInt_lt] at h
  rw [Int32.le_iff_toInt_le]
  omega
/-- the reference's next is the first of the class's best row -/
theorem next_is {ρ : ed_S} {T : Nat} {q : Nat → List Nat} {y : Int32} (hg : ∀ t, t < T → ∃ p, p < 8 ∧ ρ 6 0 t = nI p) (hD : gD ρ T q) (hm : ms_ T (fun t => ρ 7 0 t = 1) (bt_ ρ) y) : (∀ p, p < 8 → q (8 + p) = []) ∧ y = -1 ∨ ∃ p h l, p < 8 ∧ q (8 + p) = h :: l ∧ y = nI h ∧ ∀ p', p < p' → p' < 8 → q (8 + p') = [] := by
  rcases hm with ⟨h1, h2⟩ | ⟨b, h1, h2, h3, h4⟩
  · refine Or.inl ⟨fun p hp => ?_, h1⟩
    cases e : q (8 + p) with
    | nil => rfl
    | cons a l =>
      have ha := ((hD.1 p hp).2 a).mp (by rw [e]; exact List.mem_cons_self)
      exact absurd ha.2.1 (h2 a ha.1)
  · obtain ⟨p, hp, hpb⟩ := hg b h1
    have hb := ((hD.1 p hp).2 b).mpr ⟨h1, h3, hpb⟩
    refine Or.inr ?_
    cases e : q (8 + p) with
    | nil => rw [e] at hb; exact absurd hb List.not_mem_nil
    | cons a l =>
      have ha := ((hD.1 p hp).2 a).mp (by rw [e]; exact List.mem_cons_self)
      have hab := h4 a ha.1 ha.2.1
      refine ⟨p, a, l, hp, e, ?_, fun p' hpp hp' => ?_⟩
      · rw [e] at hb
        rcases List.mem_cons.mp hb with z | z
        · rw [h2, z]
        · exfalso
          have hs := (hD.1 p hp).1
          rw [e] at hs
          have h5 := (List.pairwise_cons.mp hs).1 b z
          rcases hab with w | ⟨_, w⟩
          · rw [hpb, ha.2.2] at w
            exact lt_irr _ w
          · exact lt_asym h5 w
      · cases e2 : q (8 + p') with
        | nil => rfl
        | cons d l' =>
          exfalso
          have hd := ((hD.1 p' hp').2 d).mp (by rw [e2]; exact List.mem_cons_self)
          rcases h4 d hd.1 hd.2.1 with w | ⟨w, _⟩
          · rw [hpb, hd.2.2] at w
            exact absurd ((nI_ltI (by omega) (by omega)).mp w) (by omega)
          · rw [hpb, hd.2.2] at w
            exact absurd ((nI_eq (by omega) (by omega)).mp w) (by omega)
