/-! ===== the pure part: a wait is satisfied, or not ===== -/
/-- the objects of t's places are on both sides -/
def po_ (σ ρ : ed_S) (t : Nat) : Prop := ∀ k o, k < 3 → o < 16 → σ 40 t k = nI o → ob_ σ ρ o
/-- place k of t is an object that is signaled for t -/
def sk_ (ρ : ed_S) (t k : Nat) : Prop := ∃ o, o < 16 ∧ ρ 17 0 (3 * t + k) = nI o ∧ sg_ ρ o t
/-- the class looks for the first signaled place -/
theorem d_any {σ ρ : ed_S} {t : Nat} (ht : t < 8) (hp : pl_ σ ρ t) (ho : po_ σ ρ t) : ∀ (k n : Nat), k ≤ 3 → 3 - k < n → (∀ j, j < k → ¬ sk_ ρ t j) →
    ((∀ j, j < 3 → ¬ sk_ ρ t j) ∧ F_Desk_satisfyAny_2 n (nI t) (nI k) σ = some (-10, σ)) ∨ ∃ j o, j < 3 ∧ o < 16 ∧ σ 40 t j = nI o ∧ sg_ ρ o t ∧ (∀ i, i < j → ¬ sk_ ρ t i) ∧ F_Desk_satisfyAny_2 n (nI t) (nI k) σ = (vB2 (F_Obj_take o (nI t) σ) fun r25 σ23 => (if r25 = 0 then (some (nI j, σ23)) else (some ((nI j + 16), σ23)))) := by
  intro k
  have main : ∀ (m k n : Nat), k + m = 3 → m < n → (∀ j, j < k → ¬ sk_ ρ t j) →
    ((∀ j, j < 3 → ¬ sk_ ρ t j) ∧ F_Desk_satisfyAny_2 n (nI t) (nI k) σ = some (-10, σ)) ∨ ∃ j o, j < 3 ∧ o < 16 ∧ σ 40 t j = nI o ∧ sg_ ρ o t ∧ (∀ i, i < j → ¬ sk_ ρ t i) ∧ F_Desk_satisfyAny_2 n (nI t) (nI k) σ = (vB2 (F_Obj_take o (nI t) σ) fun r25 σ23 => (if r25 = 0 then (some (nI j, σ23)) else (some ((nI j + 16), σ23)))) := by
    intro m
    induction m with
    | zero =>
      intro k n h1 h2 h3
      obtain ⟨n, rfl⟩ : ∃ z, n = z + 1 := ⟨n - 1, by omega⟩
      have hk : k = 3 := by omega
      subst hk
      exact Or.inl ⟨h3, rfl⟩
    | succ m ih =>
      intro k n h1 h2 h3
      obtain ⟨n, rfl⟩ : ∃ z, n = z + 1 := ⟨n - 1, by omega⟩
      have hk : k < 3 := by omega
      obtain ⟨p1, p2, p3⟩ := hp.1 k hk
      have e : F_Desk_satisfyAny_2 (n + 1) (nI t) (nI k) σ = if σ 40 t k = -1 then F_Desk_satisfyAny_2 n (nI t) (nI (k + 1)) σ else (vG (σ 40 t k) 16 fun j11 => (vB2 (F_Obj_isSignaledFor j11 (nI t) σ) fun r17 σ15 => (if r17 = 0 then ((F_Desk_satisfyAny_2 n) (nI t) (nI (k + 1)) σ15) else (vG (σ 40 t k) 16 fun j19 => (vB2 (F_Obj_take j19 (nI t) σ15) fun r25 σ23 => (if r25 = 0 then (some (nI k, σ23)) else (some ((nI k + 16), σ23)))))))) := by
        show (if (3 : Int32) ≤ nI k then _ else _) = _
        rw [if_neg (by rw [show (3 : Int32) = nI 3 from rfl]; exact nI_ge hk (by omega)), vG_at ht (by omega), vG_at hk (by omega), nI_1]
      rw [e]
      rcases p2 with p2 | ⟨o, ho16, p2⟩
      · rw [if_pos p2]
        refine ih (k + 1) n (by omega) (by omega) (fun j hj => ?_)
        by_cases c : j = k
        · subst c
          rintro ⟨o, ho16, z, -⟩
          rw [← p1, p2] at z
          exact nI_m1 (by omega) z.symm
        · exact h3 j (by omega)
      · rw [p2, if_neg (nI_m1 (by omega)), vG_at ho16 (by omega)]
        rcases s_sig (t := t) ho16 (ho k o hk ho16 p2) (p3 o ho16 p2) with ⟨s1, s2, s3⟩ | ⟨s1, s2, s3⟩
        · right
          refine ⟨k, o, hk, ho16, p2, s1, h3, ?_⟩
          rw [vB2_at s2, if_neg (by decide), vG_at ho16 (by omega)]
        · rw [vB2_at s2, if_pos rfl]
          refine ih (k + 1) n (by omega) (by omega) (fun j hj => ?_)
          by_cases c : j = k
          · subst c
            rintro ⟨o', ho', z, zs⟩
            rw [← p1, p2] at z
            have := (nI_eq (by omega) (by omega)).mp z
            subst this
            exact s1 zs
          · exact h3 j (by omega)
  intro n h1 h2 h3
  exact main (3 - k) k n (by omega) h2 h3
