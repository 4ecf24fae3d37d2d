/-! ===== the pure part: release ===== -/
/-- only the fields of objects have changed -/
theorem gM.ob {σ ρ σ' ρ' : ed_S} {T P : Nat} {q : Nat → List Nat} (h : gM σ ρ T P q) (a : ag_ σ σ' [26, 27, 28, 29, 30, 43, 44, 45]) (b : ag_ ρ ρ' [20, 21, 24, 25, 26, 27, 28, 29, 30]) (ho : ∀ o, o < 16 → th_ ρ T q o → ob_ σ ρ o → ob_ σ' ρ' o) : gM σ' ρ' T P q := by
  obtain ⟨nQ, nA, nT, nU, nR, nC, nW, nD, nX, nV, nI', nP, nH, nO⟩ := h
  have hhc : ∀ o, hc_ ρ' o = hc_ ρ o := fun o => hc_.ag b (by decide) o
  have hpc : ∀ o, pc_ ρ' T (q 33).length o = pc_ ρ T (q 33).length o := fun o => pc_.ag b (by decide) (fun t _ => by rw [b.at 7 (by decide)]) o
  refine ⟨nQ.ag a (by decide), nA.ag a b (by decide) (by decide), nT.ag a b (by decide) (by decide), nU.ag a b (by decide) (by decide), nR.ag b (by decide), nC.ag b (by decide), nW.ag a b (by decide) (by decide), nD.ag b (by decide), nX.ag a b (by decide) (by decide), nV.ag b (by decide), nI'.ag b (by decide), nP.ag a b (by decide) (by decide), nH.ag a (by decide) hhc hpc, ?_, ?_⟩
  · intro o ho'
    rw [b.at 19 (by decide)]
    exact nO.1 o ho'
  · intro o ho' ht
    have ht2 : th_ ρ T q o := by
      unfold th_ at *
      rw [hhc, hpc] at ht
      exact ht
    obtain ⟨x, y⟩ := nO.2 o ho' ht2
    refine ⟨ho o ho' ht2 x, fun z => ?_⟩
    rw [hhc] at z
    rw [a.at 23 (by decide), b.at 23 (by decide)]
    exact y z
theorem ag_.mo {σ σ' : ed_S} {L M : List Nat} (h : ag_ σ σ' L) (hs : ∀ k ∈ L, k ∈ M) : ag_ σ σ' M := fun k i j hk => h k i j (fun z => hk (hs k z))
theorem te_.gM {t : Nat} {σ ρ σ' ρ' : ed_S} {T P : Nat} {q : Nat → List Nat} (h : te_ t σ ρ σ' ρ') (m : gM σ ρ T P q) : gM σ' ρ' T P q :=
  gM.ob m (h.1.mo (by decide)) (h.2.1.mo (by decide)) (fun o ho _ z => h.2.2.1 o ho z)
/-- the place of a wait is there -/
theorem th_pl {σ ρ : ed_S} {T P t k o : Nat} {q : Nat → List Nat} (m : gM σ ρ T P q) (ht : t < T) (h2 : ρ 7 0 t = 2) (hk : k < 3) (h : ρ 17 0 (3 * t + k) = nI o) : th_ ρ T q o := by
  intro z
  have h1 : 0 < cn_ (3 * T) (pw_ ρ (nI o)) := cn_pos (k := 3 * t + k) (by omega) (by simp [pw_, show (3 * t + k) / 3 = t by omega, h2, h])
  have h3 := z.2
  unfold pc_ at h3
  omega
theorem po_.of {σ ρ : ed_S} {T P t : Nat} {q : Nat → List Nat} (m : gM σ ρ T P q) (ht : t < T) (h2 : ρ 7 0 t = 2) : pl_ σ ρ t ∧ po_ σ ρ t ∧ (σ 15 t 0 = 0 ↔ (ρ 14 0 t &&& 1) = 0) := by
  have m' := m
  obtain ⟨nQ, nA, nT, nU, nR, nC, nW, nD, nX, nV, nI', nP, nH, nO⟩ := m
  obtain ⟨v1, v2, v3, v3', v4, v5, v6⟩ := nW.2.2.1 t ht h2
  refine ⟨v6, fun k o hk ho z => ?_, v4⟩
  exact (nO.2 o ho (th_pl m' ht h2 hk (by rw [← (v6.1 k hk).1]; exact z))).1
theorem sat_.ag {ρ ρ' : ed_S} {L' : List Nat} {t : Nat} (b : ag_ ρ ρ' L') (h2 : ∀ k ∈ [14, 17, 20, 22, 24, 25], k ∉ L') : sat_ ρ' t ↔ sat_ ρ t := by
  unfold sat_ sk_ sg_
  simp only [b.at 14 (h2 14 (by decide)), b.at 17 (h2 17 (by decide)), b.at 20 (h2 20 (by decide)), b.at 22 (h2 22 (by decide)), b.at 24 (h2 24 (by decide)), b.at 25 (h2 25 (by decide))]
theorem sat_.te {σ ρ σ' ρ' : ed_S} {t u : Nat} (h : te_ t σ ρ σ' ρ') (hu : u < 8) (hne : u ≠ t) (hs : sat_ ρ' u) : sat_ ρ u := by
  have b := h.2.1
  have hk : ∀ j, sk_ ρ' u j → sk_ ρ u j := fun j ⟨o, z1, z2, z3⟩ => ⟨o, z1, by rw [← b.at 17 (by decide)]; exact z2, h.2.2.2 u o hu hne z1 z3⟩
  rcases hs with ⟨w1, j, w2, w3⟩ | ⟨w1, w2⟩
  · rw [b.at 14 (by decide)] at w1
    exact Or.inl ⟨w1, j, w2, hk j w3⟩
  · rw [b.at 14 (by decide)] at w1
    exact Or.inr ⟨w1, fun j z1 z2 => hk j (w2 j z1 (by rw [b.at 17 (by decide)]; exact z2))⟩
/-- no wait can be satisfied -/
def qu_ (ρ : ed_S) (q : Nat → List Nat) : Prop := ∀ t, t ∈ q 32 → ¬ sat_ ρ t
/-- the orders given so far -/
def bd_ (ρ : ed_S) (b : Nat) : Prop := -(b : Int) ≤ (ρ 52 0 0).toInt ∧ (ρ 52 0 0).toInt ≤ 0 ∧ 0 ≤ (ρ 51 0 0).toInt ∧ (ρ 51 0 0).toInt ≤ b
theorem bd_.nw {ρ : ed_S} {b : Nat} (h : bd_ ρ b) (hb : b < 1000000) : nw_ ρ := ⟨by have := h.1; omega, h.2.1, h.2.2.1, by have := h.2.2.2; omega⟩
theorem bd_.mo {ρ : ed_S} {b c : Nat} (h : bd_ ρ b) (hb : b ≤ c) : bd_ ρ c := ⟨by have := h.1; omega, h.2.1, h.2.2.1, by have := h.2.2.2; omega⟩
theorem bd_.ag {ρ ρ' : ed_S} {b : Nat} {L' : List Nat} (g : ag_ ρ ρ' L') (h2 : ∀ k ∈ [51, 52], k ∉ L') (h : bd_ ρ b) : bd_ ρ' b := by
  unfold bd_ at *
  rw [g.at 51 (h2 51 (by decide)), g.at 52 (h2 52 (by decide))]
  exact h
/-- one more order -/
theorem bd_.s {ρ ρ' : ed_S} {b : Nat} (h : bd_ ρ b) (hb : b < 1000000) (h1 : ρ' 51 0 0 = ρ 51 0 0 + 1) (h2 : ρ' 52 0 0 = ρ 52 0 0) : bd_ ρ' (b + 1) := by
  have i := add1 (h.nw hb).2.2.2
  obtain ⟨a1, a2, a3, a4⟩ := h
  refine ⟨?_, ?_, ?_, ?_⟩
  · rw [h2]; omega
  · rw [h2]; omega
  · rw [h1, i]; omega
  · rw [h1, i]; omega
/-- the kinds that a release changes -/
theorem fl_ne {l1 l2 : List Nat} {t : Nat} (h : (l1 ++ t :: l2).Nodup) : (l1 ++ t :: l2).filter (fun w => w != t) = l1 ++ l2 := by
  have h1 := List.nodup_append.mp h
  have h2 := List.nodup_cons.mp h1.2.1
  rw [List.filter_append, List.filter_cons]
  simp only [bne_self_eq_false, Bool.false_eq_true, if_false]
  rw [List.filter_eq_self.mpr (fun a ha => by
      simp only [bne_iff_ne, ne_eq]
      exact fun z => h1.2.2 a ha t List.mem_cons_self z), List.filter_eq_self.mpr (fun a ha => by
      simp only [bne_iff_ne, ne_eq]
      exact fun z => h2.1 (z ▸ ha))]
/-- what a release leaves as it was -/
def re_ (T : Nat) (σ ρ σ' ρ' : ed_S) (q q' : Nat → List Nat) : Prop := ag_ σ σ' [10, 11, 18, 25, 26, 27, 28, 39] ∧ ag_ ρ ρ' [7, 8, 13, 16, 20, 21, 24, 25, 51] ∧ (∀ r, r < 8 ∨ (16 ≤ r ∧ r ≠ 32) → q' r = q r) ∧ (∀ u, ρ' 7 0 u = ρ 7 0 u ∨ (ρ 7 0 u = 2 ∧ ρ' 7 0 u = 1))
theorem re_.rf {T : Nat} {σ ρ : ed_S} {q : Nat → List Nat} : re_ T σ ρ σ ρ q q := ⟨ag_.rf, ag_.rf, fun _ _ => rfl, fun _ => Or.inl rfl⟩
theorem re_.tr {T : Nat} {σ ρ σ1 ρ1 σ2 ρ2 : ed_S} {q q1 q2 : Nat → List Nat} (h : re_ T σ ρ σ1 ρ1 q q1) (h2 : re_ T σ1 ρ1 σ2 ρ2 q1 q2) : re_ T σ ρ σ2 ρ2 q q2 := ⟨h.1.tr h2.1, h.2.1.tr h2.2.1, fun r hr => (h2.2.2.1 r hr).trans (h.2.2.1 r hr), fun u => by
  rcases h.2.2.2 u with a | ⟨a1, a2⟩ <;> rcases h2.2.2.2 u with c | ⟨c1, c2⟩
  · exact Or.inl (c.trans a)
  · exact Or.inr ⟨by rw [← a]; exact c1, c2⟩
  · exact Or.inr ⟨a1, by rw [c]; exact a2⟩
  · rw [a2] at c1
    exact absurd c1 (by decide)⟩
theorem waiter_tl {σ ρ : ed_S} {T P : Nat} {q : Nat → List Nat} {l1 l2 : List Nat} {a : Int32} (m : gM σ ρ T P q) (h : q 32 = l1 ++ l2) (h1 : ∀ u, u ∈ l1 → ¬ a < ρ 15 0 u) (h2 : ∀ u, u ∈ l2 → a < ρ 15 0 u) : F_Mod_waiter a ρ = some (hi_ l2, ρ) := by
  obtain ⟨nQ, nA, nT, nU, nR, nC, nW, nD, nX, nV, nI', nP, nH, nO⟩ := m
  obtain ⟨y, e, hm⟩ := m_waiter nA.2.1 nA.2.2.2.2.2.1 a
  have hs := nW.1
  rw [h] at hs
  rw [mn_head hm (l := l2) (fun t => ?_) (List.pairwise_append.mp hs).2.1] at e
  · exact e
  · have hw := nW.2.1 t
    rw [h, List.mem_append] at hw
    constructor
    · intro z
      have := hw.mp (Or.inr z)
      exact ⟨this.1, this.2, h2 t z⟩
    · intro z
      rcases hw.mpr ⟨z.1, z.2.1⟩ with w | w
      · exact absurd z.2.2 (h1 t w)
      · exact w
theorem s_rel {T P : Nat} : ∀ (l2 l1 : List Nat) (n k s b : Nat) (σ ρ : ed_S) (q : Nat → List Nat) (a : Int32), gM σ ρ T P q → bd_ ρ b → b + l2.length < 1000000 → q 32 = l1 ++ l2 → s + l2.length ≤ 8 → l2.length < n → l2.length < k → (∀ t, t ∈ l1 → ¬ sat_ ρ t) →
    ∃ σ' ρ' q', F_Desk_release_4 n (nI l1.length) (nI s) σ = some σ' ∧ F_Mod_release_8 k a (hi_ l2) ρ = some ρ' ∧ gM σ' ρ' T P q' ∧ bd_ ρ' (b + l2.length) ∧ qu_ ρ' q' ∧ re_ T σ ρ σ' ρ' q q' := by
  intro l2
  induction l2 with
  | nil =>
    intro l1 n k s b σ ρ q a m hb hb2 hq hs hn hk hl
    obtain ⟨n, rfl⟩ : ∃ z, n = z + 1 := ⟨n - 1, by simp at hn; omega⟩
    obtain ⟨k, rfl⟩ : ∃ z, k = z + 1 := ⟨k - 1, by simp at hk; omega⟩
    rw [List.append_nil] at hq
    refine ⟨σ, ρ, q, ?_, ?_, m, hb.mo (by simp), fun t ht => hl t (by rw [← hq]; exact ht), re_.rf⟩
    · show (if (8 : Int32) ≤ nI s then _ else _) = _
      by_cases c : (8 : Int32) ≤ nI s
      · rw [if_pos c]
      · have hr := m.1 32 (by omega)
        rw [if_neg c, if_pos (by rw [hr.1, hq]; exact le_rf _)]
    · show (if (-1 : Int32) < 0 then _ else _) = _
      rw [if_pos (by decide)]
  | cons t l2 ih =>
    intro l1 n k s b σ ρ q a m hb hb2 hq hs hn hk hl
    simp only [List.length_cons] at hb2 hs hn hk ⊢
    obtain ⟨n, rfl⟩ : ∃ z, n = z + 1 := ⟨n - 1, by omega⟩
    obtain ⟨k, rfl⟩ : ∃ z, k = z + 1 := ⟨k - 1, by omega⟩
    have m' := m
    obtain ⟨nQ, nA, nT, nU, nR, nC, nW, nD, nX, nV, nI', nP, nH, nO⟩ := m
    have hsort := nW.1
    rw [hq] at hsort
    have hnd := pw_nd hsort
    have hp1 := List.pairwise_append.mp hsort
    have hp2 := List.pairwise_cons.mp hp1.2.1
    have htw := (nW.2.1 t).mp (by rw [hq]; simp)
    have hT8 := nA.2.1
    have ht8 : t < 8 := by omega
    have hr := nQ 32 (by omega)
    rw [hq] at hr
    have hlen := hr.2.1
    have hc8 := ed_cap8 32
    simp only [List.length_append, List.length_cons] at hlen
    have eg : F_Row_get 32 (nI l1.length) σ = some (nI t, σ) := row_get hr (by simp)
    have eC : F_Desk_release_4 (n + 1) (nI l1.length) (nI s) σ = (vB2 (F_Desk_satisfy (nI t) σ) fun r8 σ6 => (if r8 = (-10) then ((F_Desk_release_4 n) (nI (l1.length + 1)) (nI (s + 1)) σ6) else (vB1 (F_Desk_endWait (nI t) r8 σ6) fun σ10 => ((F_Desk_release_4 n) (nI l1.length) (nI (s + 1)) σ10)))) := by
      show (if (8 : Int32) ≤ nI s then _ else _) = _
      rw [if_neg (by rw [show (8 : Int32) = nI 8 from rfl]; exact nI_ge (by omega) (by omega)), hr.1, if_neg (nI_ge (by simp) (by simp; omega)), vB2_at eg]
      simp only [nI_1]
    have eR : F_Mod_release_8 (k + 1) a (hi_ (t :: l2)) ρ = (vB2 (F_Mod_satisfy (nI t) ρ) fun r8 σ6 => (if r8 < 0 then (vB2 (F_Mod_waiter (ρ 15 0 t) σ6) fun r12 σ10 => ((F_Mod_release_8 k) (ρ 15 0 t) r12 σ10)) else (vB1 (F_Mod_go (nI t) r8 σ6) fun σ13 => (vB2 (F_Mod_waiter (ρ 15 0 t) σ13) fun r17 σ15 => ((F_Mod_release_8 k) (ρ 15 0 t) r17 σ15))))) := by
      rw [show hi_ (t :: l2) = nI t from rfl]
      show (if nI t < 0 then _ else _) = _
      rw [if_neg (nI_pos (by omega)), vG_at ht8 (by omega)]
    rw [eC, eR]
    obtain ⟨hpl, hpo, hy⟩ := po_.of m' htw.1 htw.2
    rcases s_sat ht8 hpl hpo hy with ⟨c1, c2, c3⟩ | ⟨c1, v, σ1, ρ1, c2, c3, c4, c5⟩
    · rw [vB2_at c2, vB2_at c3, if_pos rfl, if_pos (by decide)]
      have ew : F_Mod_waiter (ρ 15 0 t) ρ = some (hi_ l2, ρ) := waiter_tl (l1 := l1 ++ [t]) m' (by rw [hq]; simp) (fun u hu => by
        rcases List.mem_append.mp hu with w | w
        · exact nlt_of_le (le_of_lt (hp1.2.2 u w t List.mem_cons_self))
        · rw [List.mem_singleton.mp w]; exact lt_irr _) (fun u hu => hp2.1 u hu)
      rw [vB2_at ew]
      obtain ⟨σ', ρ', q', d1, d2, d3, d4, d5, d6⟩ := ih (l1 ++ [t]) n k (s + 1) b σ ρ q (ρ 15 0 t) m' hb (by omega) (by rw [hq]; simp) (by omega) (by omega) (by omega) (fun u hu => by
        rcases List.mem_append.mp hu with w | w
        · exact hl u w
        · rw [List.mem_singleton.mp w]; exact c1)
      rw [List.length_append, List.length_singleton] at d1
      exact ⟨σ', ρ', q', d1, d2, d3, d4.mo (by omega), d5, d6⟩
    · rw [vB2_at c3, vB2_at c4, if_neg (fun z => by
        have := congrArg Int32.toInt z
        rw [nI_toInt (by omega)] at this
        have e : (-10 : Int32).toInt = -10 := by decide
        rw [e] at this
        omega), if_neg (nI_pos (by omega))]
      have m1 : gM σ1 ρ1 T P q := c5.gM m'
      have hb1 : bd_ ρ1 b := hb.ag c5.2.1 (by decide)
      obtain ⟨σ2, ρ2, q2, g1, g2, m2, g3, g4, g5, g6, g7, g8, g9, g10⟩ := s_go m1 (hb1.nw (by omega)) htw.1 (by rw [c5.2.1.at 7 (by decide)]; exact htw.2) (nI v)
      rw [vB1_at g1, vB1_at g2]
      have hb2' : bd_ ρ2 (b + 1) := hb1.s (by omega) g7 (g4.at 52 (by decide) 0 0)
      have hq2 : q2 32 = l1 ++ l2 := by rw [g5, hq]; exact fl_ne hnd
      have r15 : ∀ u, ρ2 15 0 u = ρ 15 0 u := fun u => (g4.at 15 (by decide) 0 u).trans (c5.2.1.at 15 (by decide) 0 u)
      have ew : F_Mod_waiter (ρ 15 0 t) ρ2 = some (hi_ l2, ρ2) := waiter_tl m2 hq2 (fun u hu => by
        rw [r15]
        exact nlt_of_le (le_of_lt (hp1.2.2 u hu t List.mem_cons_self))) (fun u hu => by rw [r15]; exact hp2.1 u hu)
      rw [vB2_at ew]
      obtain ⟨σ', ρ', q', d1, d2, d3, d4, d5, d6⟩ := ih l1 n k (s + 1) (b + 1) σ2 ρ2 q2 (ρ 15 0 t) m2 hb2' (by omega) hq2 (by omega) (by omega) (by omega) (fun u hu w => by
        have hu8 : u < 8 := by
          have := ((nW.2.1 u).mp (by rw [hq]; simp [hu])).1
          omega
        have hne : u ≠ t := fun z => by
          subst z
          exact lt_irr _ (hp1.2.2 u hu u List.mem_cons_self)
        exact hl u hu (sat_.te c5 hu8 hne ((sat_.ag g4 (by decide)).mp w)))
      refine ⟨σ', ρ', q', d1, d2, d3, d4.mo (by omega), d5, re_.tr ⟨(c5.1.mo (by decide)).tr (g3.mo (by decide)), (c5.2.1.mo (by decide)).tr (g4.mo (by decide)), fun r hr => g6 r hr, fun u => ?_⟩ d6⟩
      by_cases c : u = t
      · subst c
        exact Or.inr ⟨htw.2, g9⟩
      · exact Or.inl ((g8 u c).trans (c5.2.1.at 7 (by decide) 0 u))
/-- release, both sides -/
theorem s_release {σ ρ : ed_S} {T P b : Nat} {q : Nat → List Nat} (m : gM σ ρ T P q) (hb : bd_ ρ b) (hb2 : b + 8 < 1000000) :
    ∃ σ' ρ' q', F_Desk_release σ = some σ' ∧ F_Mod_release ρ = some ρ' ∧ gM σ' ρ' T P q' ∧ bd_ ρ' (b + 8) ∧ qu_ ρ' q' ∧ re_ T σ ρ σ' ρ' q q' := by
  have m' := m
  obtain ⟨nQ, nA, nT, nU, nR, nC, nW, nD, nX, nV, nI', nP, nH, nO⟩ := m
  have hlen : (q 32).length ≤ 8 := Nat.le_trans (nQ 32 (by omega)).2.1 (ed_cap8 32)
  have ew : F_Mod_waiter (-1) ρ = some (hi_ (q 32), ρ) := waiter_tl (l1 := []) m' rfl (fun u hu => absurd hu List.not_mem_nil) (fun u hu => by
    have := (nW.2.1 u).mp hu
    exact (nW.2.2.1 u this.1 this.2).1)
  obtain ⟨σ', ρ', q', d1, d2, d3, d4, d5, d6⟩ := s_rel (q 32) [] ed_fu ed_fu 0 b σ ρ q (-1) m' hb (by omega) rfl (by omega) (by show _ < 64; omega) (by show _ < 64; omega) (fun t ht => absurd ht List.not_mem_nil)
  refine ⟨σ', ρ', q', d1, ?_, d3, d4.mo (by omega), d5, d6⟩
  unfold F_Mod_release
  rw [vB2_at ew]
  exact d2
/-- in a quiet state the reference's release changes nothing -/
theorem m_relq {σ ρ : ed_S} {T P : Nat} {q : Nat → List Nat} (m : gM σ ρ T P q) (hu : qu_ ρ q) : ∀ (l2 l1 : List Nat) (k : Nat) (a : Int32), q 32 = l1 ++ l2 → l2.length < k → F_Mod_release_8 k a (hi_ l2) ρ = some ρ := by
  intro l2
  induction l2 with
  | nil =>
    intro l1 k a hq hk
    obtain ⟨k, rfl⟩ : ∃ z, k = z + 1 := ⟨k - 1, by simp at hk; omega⟩
    show (if (-1 : Int32) < 0 then _ else _) = _
    rw [if_pos (by decide)]
  | cons t l2 ih =>
    intro l1 k a hq hk
    simp only [List.length_cons] at hk
    obtain ⟨k, rfl⟩ : ∃ z, k = z + 1 := ⟨k - 1, by omega⟩
    have m' := m
    obtain ⟨nQ, nA, nT, nU, nR, nC, nW, nD, nX, nV, nI', nP, nH, nO⟩ := m
    have hsort := nW.1
    rw [hq] at hsort
    have hp1 := List.pairwise_append.mp hsort
    have hp2 := List.pairwise_cons.mp hp1.2.1
    have htw := (nW.2.1 t).mp (by rw [hq]; simp)
    have hT8 := nA.2.1
    have ht8 : t < 8 := by omega
    have eR : F_Mod_release_8 (k + 1) a (hi_ (t :: l2)) ρ = (vB2 (F_Mod_satisfy (nI t) ρ) fun r8 σ6 => (if r8 < 0 then (vB2 (F_Mod_waiter (ρ 15 0 t) σ6) fun r12 σ10 => ((F_Mod_release_8 k) (ρ 15 0 t) r12 σ10)) else (vB1 (F_Mod_go (nI t) r8 σ6) fun σ13 => (vB2 (F_Mod_waiter (ρ 15 0 t) σ13) fun r17 σ15 => ((F_Mod_release_8 k) (ρ 15 0 t) r17 σ15))))) := by
      rw [show hi_ (t :: l2) = nI t from rfl]
      show (if nI t < 0 then _ else _) = _
      rw [if_neg (nI_pos (by omega)), vG_at ht8 (by omega)]
    rw [eR]
    obtain ⟨hpl, hpo, hy⟩ := po_.of m' htw.1 htw.2
    rcases s_sat ht8 hpl hpo hy with ⟨c1, c2, c3⟩ | ⟨c1, v, σ1, ρ1, c2, c3, c4, c5⟩
    · rw [vB2_at c3, if_pos (by decide)]
      have ew : F_Mod_waiter (ρ 15 0 t) ρ = some (hi_ l2, ρ) := waiter_tl (l1 := l1 ++ [t]) m' (by rw [hq]; simp) (fun u hu => by
        rcases List.mem_append.mp hu with w | w
        · exact nlt_of_le (le_of_lt (hp1.2.2 u w t List.mem_cons_self))
        · rw [List.mem_singleton.mp w]; exact lt_irr _) (fun u hu => hp2.1 u hu)
      rw [vB2_at ew]
      exact ih (l1 ++ [t]) k (ρ 15 0 t) (by rw [hq]; simp) (by omega)
    · exact absurd c1 (hu t (by rw [hq]; simp))
theorem m_relnop {σ ρ : ed_S} {T P : Nat} {q : Nat → List Nat} (m : gM σ ρ T P q) (hu : qu_ ρ q) : F_Mod_release ρ = some ρ := by
  have m' := m
  obtain ⟨nQ, nA, nT, nU, nR, nC, nW, nD, nX, nV, nI', nP, nH, nO⟩ := m
  have hlen : (q 32).length ≤ 8 := Nat.le_trans (nQ 32 (by omega)).2.1 (ed_cap8 32)
  have ew : F_Mod_waiter (-1) ρ = some (hi_ (q 32), ρ) := waiter_tl (l1 := []) m' rfl (fun u hu => absurd hu List.not_mem_nil) (fun u hu => by
    have := (nW.2.1 u).mp hu
    exact (nW.2.2.1 u this.1 this.2).1)
  unfold F_Mod_release
  rw [vB2_at ew]
  exact m_relq m' hu (q 32) [] ed_fu (-1) rfl (by show _ < 64; omega)
