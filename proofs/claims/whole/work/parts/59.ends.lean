/-! ===== the pure part: a wait ends ===== -/
theorem cn_blk {f g : Nat → Bool} {t : Nat} : ∀ (T : Nat), t < T → (∀ j, j < 3 * T → j / 3 ≠ t → f j = g j) → cn_ (3 * T) f + cn_ 3 (fun k => g (3 * t + k)) = cn_ (3 * T) g + cn_ 3 (fun k => f (3 * t + k)) := by
  intro T
  induction T with
  | zero => intro h; omega
  | succ T ih =>
    intro ht h
    have e : ∀ z : Nat → Bool, cn_ (3 * (T + 1)) z = cn_ (3 * T) z + (if z (3 * T) then 1 else 0) + (if z (3 * T + 1) then 1 else 0) + (if z (3 * T + 2) then 1 else 0) := fun z => rfl
    rw [e f, e g]
    by_cases c : t = T
    · subst c
      rw [cn_congr (n := 3 * t) (c := f) (d := g) (fun j hj => h j (by omega) (by omega))]
      have e3 : ∀ z : Nat → Bool, cn_ 3 (fun k => z (3 * t + k)) = 0 + (if z (3 * t) then 1 else 0) + (if z (3 * t + 1) then 1 else 0) + (if z (3 * t + 2) then 1 else 0) := fun z => rfl
      rw [e3 f, e3 g]
      omega
    · have h1 := ih (by omega) (fun j hj => h j (by omega))
      rw [h (3 * T) (by omega) (by omega), h (3 * T + 1) (by omega) (by omega), h (3 * T + 2) (by omega) (by omega)]
      omega
/-- one place of a wait, pointed to m more -/
def pp_ (σ : ed_S) (t : Nat) (m : Int32) (k : Nat) : ed_S := if σ 40 t k = -1 then σ else ed_st σ 25 (σ 40 t k).toNatClampNeg 0 (σ 25 (σ 40 t k).toNatClampNeg 0 + m)
theorem pp_ag (σ : ed_S) (t : Nat) (m : Int32) (k : Nat) : ag_ σ (pp_ σ t m k) [25] := by
  unfold pp_
  split
  · exact ag_.rf
  · exact ag_.rf.st (by decide)
theorem pp_25 {σ : ed_S} {t k o : Nat} {m : Int32} (h : oi_ (σ 40 t k) 16) (ho : o < 16) : pp_ σ t m k 25 o 0 = σ 25 o 0 + if σ 40 t k = nI o then m else 0 := by
  unfold pp_
  rcases h with h | ⟨a, ha, h⟩
  · rw [if_pos h, h, if_neg (fun z => nI_m1 (by omega) z.symm), Int32.add_zero]
  · rw [h, if_neg (nI_m1 (by omega)), nI_clamp (by omega)]
    by_cases c : a = o
    · subst c
      rw [ed_st_s, if_pos rfl]
    · rw [ed_st_n (by omega), if_neg (fun z => c ((nI_eq (by omega) (by omega)).mp z)), Int32.add_zero]
theorem d_ptp_s {σ : ed_S} {t k n : Nat} {m : Int32} (h : oi_ (σ 40 t k) 16) (hk : k < 3) : F_Desk_pointToPlacesOf_2 (n + 1) t m (nI k) σ = F_Desk_pointToPlacesOf_2 n t m (nI (k + 1)) (pp_ σ t m k) := by
  show (if (3 : Int32) ≤ nI k then _ else _) = _
  rw [if_neg (by rw [show (3 : Int32) = nI 3 from rfl]; exact nI_ge hk (by omega)), vG_at hk (by omega)]
  unfold pp_
  rcases h with h | ⟨a, ha, h⟩
  · rw [if_pos h, if_pos h, nI_1]
  · rw [h, if_neg (nI_m1 (by omega)), if_neg (nI_m1 (by omega)), vG_at ha (by omega), nI_clamp (by omega), nI_1]
    rfl
theorem d_ptp {σ : ed_S} {t : Nat} {m : Int32} (h : ∀ k, k < 3 → oi_ (σ 40 t k) 16) : ∃ σ', F_Desk_pointToPlacesOf t m σ = some σ' ∧ ag_ σ σ' [25] ∧ ∀ o, o < 16 → σ' 25 o 0 = σ 25 o 0 + (if σ 40 t 0 = nI o then m else 0) + (if σ 40 t 1 = nI o then m else 0) + (if σ 40 t 2 = nI o then m else 0) := by
  have g0 := pp_ag σ t m 0
  have g1 := pp_ag (pp_ σ t m 0) t m 1
  have g2 := pp_ag (pp_ (pp_ σ t m 0) t m 1) t m 2
  have p1 : ∀ j, pp_ σ t m 0 40 t j = σ 40 t j := fun j => g0 40 t j (by decide)
  have p2 : ∀ j, pp_ (pp_ σ t m 0) t m 1 40 t j = σ 40 t j := fun j => (g1 40 t j (by decide)).trans (p1 j)
  refine ⟨pp_ (pp_ (pp_ σ t m 0) t m 1) t m 2, ?_, (g0.tr g1).tr g2, fun o ho => ?_⟩
  · show F_Desk_pointToPlacesOf_2 64 t m (nI 0) σ = _
    rw [d_ptp_s (h 0 (by omega)) (by omega), d_ptp_s (by rw [p1]; exact h 1 (by omega)) (by omega), d_ptp_s (by rw [p2]; exact h 2 (by omega)) (by omega)]
    rfl
  · rw [pp_25 (by rw [p2]; exact h 2 (by omega)) ho, p2, pp_25 (by rw [p1]; exact h 1 (by omega)) ho, p1, pp_25 (h 0 (by omega)) ho]
theorem em1 (n : Nat) (c : Prop) [Decidable c] : nI (n + (if c then 1 else 0)) + (if c then (-1 : Int32) else 0) = nI n := by
  split
  · exact pk_m1 n
  · exact Int32.add_zero _
/-- the pointers when a wait is gone -/
theorem pc_end {ρ ρ' : ed_S} {T K t : Nat} (ht : t < T) (h2 : ρ 7 0 t = 2) (h2' : ¬ ρ' 7 0 t = 2) (h7 : ∀ u, u ≠ t → ρ' 7 0 u = ρ 7 0 u) {L' : List Nat} (b : ag_ ρ ρ' L') (hb : ∀ k ∈ [17, 31, 34, 36, 40], k ∉ L') (o : Int32) : pc_ ρ T K o = pc_ ρ' T K o + (if ρ 17 0 (3 * t + 2) = o then 1 else 0) + (if ρ 17 0 (3 * t + 1) = o then 1 else 0) + (if ρ 17 0 (3 * t + 0) = o then 1 else 0) := by
  have h1 := cn_blk (f := pw_ ρ o) (g := pw_ ρ' o) (t := t) T ht (fun j hj hne => by
    simp only [pw_, h7 (j / 3) hne, b.at 17 (hb 17 (by decide))])
  have e3 : ∀ z : Nat → Bool, cn_ 3 z = 0 + (if z 0 then 1 else 0) + (if z 1 then 1 else 0) + (if z 2 then 1 else 0) := fun z => rfl
  have d0 : ∀ k, k < 3 → (3 * t + k) / 3 = t := fun k hk => by omega
  have g0 : ∀ k, k < 3 → pw_ ρ' o (3 * t + k) = false := fun k hk => by simp [pw_, d0 k hk, h2']
  have f0 : ∀ k, k < 3 → pw_ ρ o (3 * t + k) = decide (ρ 17 0 (3 * t + k) = o) := fun k hk => by simp [pw_, d0 k hk, h2]
  rw [e3, e3, g0 0 (by omega), g0 1 (by omega), g0 2 (by omega), f0 0 (by omega), f0 1 (by omega), f0 2 (by omega)] at h1
  simp only [decide_eq_true_eq, Bool.false_eq_true, if_false] at h1
  unfold pc_
  rw [cn_congr (c := pd_ ρ' o) (d := pd_ ρ o) (fun j _ => by simp only [pd_, b.at 31 (hb 31 (by decide)), b.at 34 (hb 34 (by decide))]), cn_congr (c := ps_ ρ' o) (d := ps_ ρ o) (fun j _ => by simp only [ps_, b.at 31 (hb 31 (by decide)), b.at 36 (hb 36 (by decide))]), cn_congr (c := pi_ ρ' o) (d := pi_ ρ o) (fun j _ => by simp only [pi_, b.at 40 (hb 40 (by decide))])]
  omega
/-- the transfers, when only the orders have grown -/
theorem gX.up {σ σ' ρ ρ' : ed_S} {L L' : List Nat} (a : ag_ σ σ' L) (b : ag_ ρ ρ' L') (h1 : ∀ k ∈ [31, 32, 33, 34, 35, 36, 37, 38], k ∉ L) (h2 : ∀ k ∈ [31, 32, 33, 34, 35, 36, 37, 38, 39], k ∉ L') (ho : ρ 51 0 0 ≤ ρ' 51 0 0) (h : gX σ ρ) : gX σ' ρ' := by
  unfold gX at *
  simp only [a.at 31 (h1 31 (by decide)), a.at 32 (h1 32 (by decide)), a.at 33 (h1 33 (by decide)), a.at 34 (h1 34 (by decide)), a.at 35 (h1 35 (by decide)), a.at 36 (h1 36 (by decide)), a.at 37 (h1 37 (by decide)), a.at 38 (h1 38 (by decide)), b.at 31 (h2 31 (by decide)), b.at 32 (h2 32 (by decide)), b.at 33 (h2 33 (by decide)), b.at 34 (h2 34 (by decide)), b.at 35 (h2 35 (by decide)), b.at 36 (h2 36 (by decide)), b.at 37 (h2 37 (by decide)), b.at 38 (h2 38 (by decide)), b.at 39 (h2 39 (by decide))]
  intro i hi
  obtain ⟨x1, x2, x3, x4, x5, x6, x7, x8, x9, x10, x11, x12⟩ := h i hi
  exact ⟨x1, x2, x3, x4, x5, x6, x7, x8, x9, x10, x11, fun z => ⟨(x12 z).1, (x12 z).2.1, le_tr (x12 z).2.2 ho⟩⟩
/-- the objects, when there are fewer pointers -/
theorem gO.less {σ σ' ρ ρ' : ed_S} {L L' : List Nat} {T T' : Nat} {q q' : Nat → List Nat} (a : ag_ σ σ' L) (b : ag_ ρ ρ' L') (h1 : ∀ k ∈ [22, 23, 26, 27, 28, 29, 30, 43, 44, 45], k ∉ L) (h2 : ∀ k ∈ [19, 20, 21, 22, 23, 24, 25, 26, 27, 28, 29, 30], k ∉ L') (hh : ∀ o, hc_ ρ' o = hc_ ρ o) (hp : ∀ o, pc_ ρ' T' (q' 33).length o ≤ pc_ ρ T (q 33).length o) (h : gO σ ρ T q) : gO σ' ρ' T' q' := by
  refine ⟨fun o ho => by rw [b.at 19 (h2 19 (by decide))]; exact h.1 o ho, fun o ho ht => ?_⟩
  have ht2 : th_ ρ T q o := by
    unfold th_ at *
    rw [hh] at ht
    have := hp (nI o)
    omega
  obtain ⟨x, y⟩ := h.2 o ho ht2
  refine ⟨x.ag a b (fun k hk => h1 k (by revert hk; simp; omega)) (fun k hk => h2 k (by revert hk; simp; omega)), fun z => ?_⟩
  rw [hh] at z
  rw [a.at 23 (h1 23 (by decide)), b.at 23 (h2 23 (by decide))]
  exact y z
