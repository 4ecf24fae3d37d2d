/-- what the reference's scan over the places knows at place k -/
def jn_ (ρ : ed_S) (t k a g : Nat) (f : Int32) : Prop := g ≤ a ∧ a ≤ k ∧ (g = a ↔ ∀ j, j < k → ¬ ρ 17 0 (3 * t + j) = -1 → sk_ ρ t j) ∧ ((f = -1 ∧ ∀ j, j < k → ¬ sk_ ρ t j) ∨ ∃ j, j < k ∧ f = nI j ∧ sk_ ρ t j ∧ ∀ i, i < j → ¬ sk_ ρ t i)
theorem jn_none {ρ : ed_S} {t k a g : Nat} {f : Int32} (h : jn_ ρ t k a g f) (hk : ρ 17 0 (3 * t + k) = -1) : jn_ ρ t (k + 1) a g f := by
  obtain ⟨h1, h2, h3, h4⟩ := h
  have hn : ¬ sk_ ρ t k := fun ⟨o, ho, z, _⟩ => nI_m1 (by omega) (z.symm.trans hk)
  refine ⟨h1, by omega, h3.trans ⟨fun w j hj z => ?_, fun w j hj => w j (by omega)⟩, ?_⟩
  · by_cases c : j = k
    · subst c; exact absurd hk z
    · exact w j (by omega) z
  · rcases h4 with ⟨w1, w2⟩ | ⟨j, w1, w2, w3, w4⟩
    · refine Or.inl ⟨w1, fun j hj => ?_⟩
      by_cases c : j = k
      · subst c; exact hn
      · exact w2 j (by omega)
    · exact Or.inr ⟨j, by omega, w2, w3, w4⟩
theorem jn_not {ρ : ed_S} {t k a g : Nat} {f : Int32} (h : jn_ ρ t k a g f) (hk : ¬ ρ 17 0 (3 * t + k) = -1) (hn : ¬ sk_ ρ t k) : jn_ ρ t (k + 1) (a + 1) g f := by
  obtain ⟨h1, h2, h3, h4⟩ := h
  refine ⟨by omega, by omega, ⟨fun w => by omega, fun w => absurd (w k (by omega) hk) hn⟩, ?_⟩
  rcases h4 with ⟨w1, w2⟩ | ⟨j, w1, w2, w3, w4⟩
  · refine Or.inl ⟨w1, fun j hj => ?_⟩
    by_cases c : j = k
    · subst c; exact hn
    · exact w2 j (by omega)
  · exact Or.inr ⟨j, by omega, w2, w3, w4⟩
theorem jn_yes {ρ : ed_S} {t k a g : Nat} {f : Int32} (h : jn_ ρ t k a g f) (hs : sk_ ρ t k) (hk3 : k < 3) : jn_ ρ t (k + 1) (a + 1) (g + 1) (if 0 ≤ f then f else nI k) := by
  obtain ⟨h1, h2, h3, h4⟩ := h
  refine ⟨by omega, by omega, ⟨fun w j hj z => ?_, fun w => ?_⟩, ?_⟩
  · by_cases c : j = k
    · subst c; exact hs
    · exact h3.mp (by omega) j (by omega) z
  · have := h3.mpr (fun j hj => w j (by omega))
    omega
  · rcases h4 with ⟨w1, w2⟩ | ⟨j, w1, w2, w3, w4⟩
    · rw [w1, if_neg (by decide)]
      exact Or.inr ⟨k, by omega, rfl, hs, w2⟩
    · rw [w2, if_pos (nI_pos' (by omega))]
      exact Or.inr ⟨j, by omega, rfl, w3, w4⟩
theorem m_scan {σ ρ : ed_S} {t : Nat} (ht : t < 8) (hp : pl_ σ ρ t) (ho : po_ σ ρ t) : ∀ (m k n a g : Nat) (f : Int32), k + m = 3 → m < n → jn_ ρ t k a g f → ∃ n' a' g' f', F_Mod_satisfy_10 n (nI t) (nI a) (nI g) f (nI k) ρ = F_Mod_satisfy_10 (n' + 1) (nI t) (nI a') (nI g') f' (nI 3) ρ ∧ jn_ ρ t 3 a' g' f' := by
  intro m
  induction m with
  | zero =>
    intro k n a g f h1 h2 h3
    have hk : k = 3 := by omega
    subst hk
    exact ⟨n - 1, a, g, f, by rw [show n - 1 + 1 = n by omega], h3⟩
  | succ m ih =>
    intro k n a g f h1 h2 h3
    obtain ⟨n, rfl⟩ : ∃ z, n = z + 1 := ⟨n - 1, by omega⟩
    have hk : k < 3 := by omega
    obtain ⟨p1, p2, p3⟩ := hp.1 k hk
    have e : F_Mod_satisfy_10 (n + 1) (nI t) (nI a) (nI g) f (nI k) ρ = (if 0 ≤ (ρ 17 0 (3 * t + k)) then (vB2 (F_Mod_isSignaled (ρ 17 0 (3 * t + k)) (nI t) ρ) fun r23 σ21 => (if r23 = 0 then ((F_Mod_satisfy_10 n) (nI t) (nI (a + 1)) (nI g) f (nI (k + 1)) σ21) else (if 0 ≤ f then ((F_Mod_satisfy_10 n) (nI t) (nI (a + 1)) (nI (g + 1)) f (nI (k + 1)) σ21) else ((F_Mod_satisfy_10 n) (nI t) (nI (a + 1)) (nI (g + 1)) (nI k) (nI (k + 1)) σ21)))) else ((F_Mod_satisfy_10 n) (nI t) (nI a) (nI g) f (nI (k + 1)) ρ)) := by
      show (if (3 : Int32) ≤ nI k then _ else _) = _
      rw [if_neg (by rw [show (3 : Int32) = nI 3 from rfl]; exact nI_ge hk (by omega)), ix3, vG_at (by omega) (by omega)]
      simp only [nI_1]
    rw [e, ← p1]
    rcases p2 with p2 | ⟨o, ho16, p2⟩
    · rw [p2, if_neg (by decide)]
      exact ih (k + 1) n a g f (by omega) (by omega) (jn_none h3 (by rw [← p1]; exact p2))
    · have hne : ¬ ρ 17 0 (3 * t + k) = -1 := by rw [← p1, p2]; exact nI_m1 (by omega)
      rw [p2, if_pos (nI_pos' (by omega))]
      rcases s_sig (t := t) ho16 (ho k o hk ho16 p2) (p3 o ho16 p2) with ⟨s1, s2, s3⟩ | ⟨s1, s2, s3⟩
      · rw [vB2_at s3, if_neg (by decide)]
        have hj := jn_yes h3 ⟨o, ho16, by rw [← p1]; exact p2, s1⟩ hk
        by_cases c : 0 ≤ f
        · rw [if_pos c]
          rw [if_pos c] at hj
          exact ih (k + 1) n (a + 1) (g + 1) f (by omega) (by omega) hj
        · rw [if_neg c]
          rw [if_neg c] at hj
          exact ih (k + 1) n (a + 1) (g + 1) (nI k) (by omega) (by omega) hj
      · rw [vB2_at s3, if_pos rfl]
        refine ih (k + 1) n (a + 1) g f (by omega) (by omega) (jn_not h3 hne ?_)
        rintro ⟨o', ho', z, zs⟩
        rw [← p1, p2] at z
        have := (nI_eq (by omega) (by omega)).mp z
        subst this
        exact s1 zs
/-- the reference's satisfy, by what its scan found -/
theorem m_satisfy {σ ρ : ed_S} {t : Nat} (ht : t < 8) (hp : pl_ σ ρ t) (ho : po_ σ ρ t) : ∃ a g f, jn_ ρ t 3 a g f ∧ F_Mod_satisfy (nI t) ρ = if (ρ 14 0 t &&& 1) = 0 then (if 0 ≤ f then (vG (3 * nI t + f) 24 fun j9 => (vB2 (F_Mod_take (ρ 17 0 j9) (nI t) ρ) fun r15 σ13 => (some ((f + r15), σ13)))) else (some ((-1), ρ))) else (if nI a ≤ nI g then (F_Mod_satisfy_124 ed_fu (nI t) (nI a) (nI g) f 0 0 ρ) else (some ((-1), ρ))) := by
  obtain ⟨n', a, g, f, e, hj⟩ := m_scan ht hp ho 3 0 ed_fu 0 0 (-1) (by omega) (by show 3 < 64; omega) ⟨Nat.le_refl _, Nat.le_refl _, ⟨fun _ j hj => by omega, fun _ => rfl⟩, Or.inl ⟨rfl, fun j hj => by omega⟩⟩
  refine ⟨a, g, f, hj, ?_⟩
  have e2 : F_Mod_satisfy (nI t) ρ = F_Mod_satisfy_10 ed_fu (nI t) (nI 0) (nI 0) (-1) (nI 0) ρ := rfl
  rw [e2, e]
  show (if (3 : Int32) ≤ nI 3 then _ else _) = _
  rw [if_pos (by decide), vG_at ht (by omega)]
/-- a wait for ANY, both sides -/
theorem s_any {σ ρ : ed_S} {t : Nat} (ht : t < 8) (hp : pl_ σ ρ t) (ho : po_ σ ρ t) (hy : (ρ 14 0 t &&& 1) = 0) :
    ((∀ j, j < 3 → ¬ sk_ ρ t j) ∧ F_Desk_satisfyAny (nI t) σ = some (-10, σ) ∧ F_Mod_satisfy (nI t) ρ = some (-1, ρ)) ∨ ∃ (j o : Nat) (r : Int32) (σ' ρ' : ed_S), j < 3 ∧ o < 16 ∧ ρ 17 0 (3 * t + j) = nI o ∧ sg_ ρ o t ∧ (r = nI j ∨ r = nI (j + 16)) ∧ F_Desk_satisfyAny (nI t) σ = some (r, σ') ∧ F_Mod_satisfy (nI t) ρ = some (r, ρ') ∧ ob_ σ' ρ' o ∧ ag_ σ σ' [26, 27, 28] ∧ ag_ ρ ρ' [20, 21, 24, 25] ∧ (∀ k i j, i ≠ o → σ' k i j = σ k i j) ∧ (∀ k j, j ≠ o → ρ' k 0 j = ρ k 0 j)  ∧ (∀ u, u < 8 → u ≠ t → sg_ ρ' o u → sg_ ρ o u) := by
  obtain ⟨a, g, f, hj, eR⟩ := m_satisfy ht hp ho
  rw [if_pos hy] at eR
  have eC0 : F_Desk_satisfyAny (nI t) σ = F_Desk_satisfyAny_2 ed_fu (nI t) (nI 0) σ := rfl
  rcases d_any ht hp ho 0 ed_fu (by omega) (by show 3 < 64; omega) (fun j hj => by omega) with ⟨h1, h2⟩ | ⟨j, o, hj3, ho16, hpl, hsg, hfst, h2⟩
  · left
    refine ⟨h1, eC0.trans h2, ?_⟩
    have hf : f = -1 := by
      rcases hj.2.2.2 with w | ⟨j, w1, w2, w3, w4⟩
      · exact w.1
      · exact absurd w3 (h1 j w1)
    rw [eR, hf, if_neg (by decide)]
  · right
    have hpl2 : ρ 17 0 (3 * t + j) = nI o := by rw [← (hp.1 j hj3).1]; exact hpl
    have hskj : sk_ ρ t j := ⟨o, ho16, hpl2, hsg⟩
    have hf : f = nI j := by
      rcases hj.2.2.2 with w | ⟨j', w1, w2, w3, w4⟩
      · exact absurd hskj (w.2 j hj3)
      · rcases Nat.lt_trichotomy j j' with z | z | z
        · exact absurd hskj (w4 j z)
        · rw [w2, z]
        · exact absurd w3 (hfst j' z)
    obtain ⟨σ', ρ', b, t1, t2, t3, t4, t5, t6, t7, t8, t9⟩ := s_take (t := t) ho16 ht (ho j o hj3 ho16 hpl) ((hp.1 j hj3).2.2 o ho16 hpl) hsg
    rw [hf, if_pos (nI_pos' (by omega)), ix3, vG_at (by omega) (by omega), hpl2, vB2_at t2] at eR
    rw [vB2_at t1] at h2
    rcases t3 with t3 | t3
    · refine ⟨j, o, nI j, σ', ρ', hj3, ho16, hpl2, hsg, Or.inl rfl, ?_, ?_, t4, t5, t6, t7, t8, t9⟩
      · rw [eC0, h2, if_pos t3]
      · rw [eR, t3, if_pos rfl, show (0 : Int32) = nI 0 from rfl, nI_add]
        rfl
    · refine ⟨j, o, nI (j + 16), σ', ρ', hj3, ho16, hpl2, hsg, Or.inr rfl, ?_, ?_, t4, t5, t6, t7, t8, t9⟩
      · rw [eC0, h2, t3, if_neg (by decide), show (16 : Int32) = nI 16 from rfl, nI_add]
      · rw [eR, t3, if_neg (by decide), show (16 : Int32) = nI 16 from rfl, nI_add]
