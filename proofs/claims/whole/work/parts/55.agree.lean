/-! ===== the pure part: what a group of the relation depends on ===== -/
/-- the states agree but for the kinds in L -/
def ag_ (σ σ' : ed_S) (L : List Nat) : Prop := ∀ k i j, k ∉ L → σ' k i j = σ k i j
theorem ag_.rf {σ : ed_S} {L : List Nat} : ag_ σ σ L := fun _ _ _ _ => rfl
theorem ag_.tr {σ σ1 σ2 : ed_S} {L : List Nat} (h : ag_ σ σ1 L) (h2 : ag_ σ1 σ2 L) : ag_ σ σ2 L := fun k i j q => (h2 k i j q).trans (h k i j q)
theorem ag_.st {σ σ1 : ed_S} {L : List Nat} {k i j : Nat} {v : Int32} (h : ag_ σ σ1 L) (hk : k ∈ L) : ag_ σ (ed_st σ1 k i j v) L := fun a b d q => by
  have z1 : ed_st σ1 k i j v a b d = σ1 a b d := ed_st_n (fun z => q (by rw [z.1]; exact hk))
  rw [z1]
  exact h a b d q
theorem ag_.fr {σ σ1 σ2 : ed_S} {L : List Nat} {r : Nat} (h : ag_ σ σ1 L) (hf : fr_ σ1 σ2 r) (h1 : 18 ∈ L) (h2 : 39 ∈ L) : ag_ σ σ2 L := fun a b d q => by
  rw [hf a b d (fun z => by
    rcases z.2 with e | e
    · exact q (e ▸ h1)
    · exact q (e ▸ h2))]
  exact h a b d q
theorem ag_.at {σ σ' : ed_S} {L : List Nat} (h : ag_ σ σ' L) (k : Nat) (hk : k ∉ L) (i j : Nat) : σ' k i j = σ k i j := h k i j hk
theorem rw_.ag {σ σ' : ed_S} {r : Nat} {l : List Nat} (h : rw_ σ r l) (h1 : ∀ j, σ' 18 r j = σ 18 r j) (h2 : ∀ j, σ' 39 r j = σ 39 r j) : rw_ σ' r l := ⟨by rw [h1]; exact h.1, h.2.1, fun j v hj => by rw [h2]; exact h.2.2 j v hj⟩
theorem rw_.st {σ : ed_S} {r k i j : Nat} {l : List Nat} {v : Int32} (h : rw_ σ r l) (h1 : k ≠ 18) (h2 : k ≠ 39) : rw_ (ed_st σ k i j v) r l := h.ag (fun _ => ed_st_n (fun z => h1 z.1.symm)) (fun _ => ed_st_n (fun z => h2 z.1.symm))
section EDAG
variable {σ σ' ρ ρ' : ed_S} {L L' : List Nat} {T P : Nat} {q : Nat → List Nat}
theorem gQ.ag (a : ag_ σ σ' L) (h1 : ∀ k ∈ [18, 39], k ∉ L) (h : gQ σ q) : gQ σ' q := fun r hr => (h r hr).ag (fun j => a 18 r j (h1 18 (by decide))) (fun j => a 39 r j (h1 39 (by decide)))
theorem gA.ag (a : ag_ σ σ' L) (b : ag_ ρ ρ' L') (h1 : ∀ k ∈ [0, 1, 2, 3, 4, 5, 6, 7], k ∉ L) (h2 : ∀ k ∈ [42, 43, 44, 45, 46, 47, 49, 50], k ∉ L') (h : gA σ ρ T P) : gA σ' ρ' T P := by
  unfold gA at *
  rw [a.at 0 (h1 0 (by decide)), a.at 1 (h1 1 (by decide)), a.at 2 (h1 2 (by decide)), a.at 3 (h1 3 (by decide)), a.at 4 (h1 4 (by decide)), a.at 5 (h1 5 (by decide)), a.at 6 (h1 6 (by decide)), a.at 7 (h1 7 (by decide)), b.at 42 (h2 42 (by decide)), b.at 43 (h2 43 (by decide)), b.at 44 (h2 44 (by decide)), b.at 45 (h2 45 (by decide)), b.at 46 (h2 46 (by decide)), b.at 47 (h2 47 (by decide)), b.at 49 (h2 49 (by decide)), b.at 50 (h2 50 (by decide))]
  exact h
theorem gT.ag (a : ag_ σ σ' L) (b : ag_ ρ ρ' L') (h1 : ∀ k ∈ [8, 9, 10, 11, 12, 13, 14], k ∉ L) (h2 : ∀ k ∈ [5, 6, 7, 8, 10, 11, 12], k ∉ L') (h : gT σ ρ T P) : gT σ' ρ' T P := fun t ht => by
  rw [a.at 8 (h1 8 (by decide)), a.at 9 (h1 9 (by decide)), a.at 10 (h1 10 (by decide)), a.at 11 (h1 11 (by decide)), a.at 12 (h1 12 (by decide)), a.at 13 (h1 13 (by decide)), a.at 14 (h1 14 (by decide)), b.at 5 (h2 5 (by decide)), b.at 6 (h2 6 (by decide)), b.at 7 (h2 7 (by decide)), b.at 8 (h2 8 (by decide)), b.at 10 (h2 10 (by decide)), b.at 11 (h2 11 (by decide)), b.at 12 (h2 12 (by decide))]
  exact h t ht
theorem gU.ag (a : ag_ σ σ' L) (b : ag_ ρ ρ' L') (h1 : ∀ k ∈ [11, 12, 13, 14], k ∉ L) (h2 : ∀ k ∈ [9, 10, 11, 12], k ∉ L') (h : gU σ ρ T q) : gU σ' ρ' T q := fun t ht ht8 => by
  rw [a.at 11 (h1 11 (by decide)), a.at 12 (h1 12 (by decide)), a.at 13 (h1 13 (by decide)), a.at 14 (h1 14 (by decide)), b.at 9 (h2 9 (by decide)), b.at 10 (h2 10 (by decide)), b.at 11 (h2 11 (by decide)), b.at 12 (h2 12 (by decide))]
  exact h t ht ht8
theorem gR.ag (b : ag_ ρ ρ' L') (h2 : ∀ k ∈ [7, 44], k ∉ L') (h : gR ρ T) : gR ρ' T := by
  unfold gR at *
  simp only [b.at 7 (h2 7 (by decide)), b.at 44 (h2 44 (by decide))]
  exact h
theorem gC.ag (b : ag_ ρ ρ' L') (h2 : ∀ k ∈ [9, 18], k ∉ L') (h : gC ρ T q) : gC ρ' T q := by
  unfold gC at *
  simp only [b.at 9 (h2 9 (by decide)), b.at 18 (h2 18 (by decide))]
  exact h
theorem gW.ag (a : ag_ σ σ' L) (b : ag_ ρ ρ' L') (h1 : ∀ k ∈ [15, 16, 17, 40], k ∉ L) (h2 : ∀ k ∈ [7, 13, 14, 15, 17, 22, 51], k ∉ L') (h : gW σ ρ T q) : gW σ' ρ' T q := by
  unfold gW pl_ at *
  simp only [a.at 15 (h1 15 (by decide)), a.at 16 (h1 16 (by decide)), a.at 17 (h1 17 (by decide)), a.at 40 (h1 40 (by decide)), b.at 7 (h2 7 (by decide)), b.at 13 (h2 13 (by decide)), b.at 14 (h2 14 (by decide)), b.at 15 (h2 15 (by decide)), b.at 17 (h2 17 (by decide)), b.at 22 (h2 22 (by decide)), b.at 51 (h2 51 (by decide))]
  exact h
theorem gD.ag (b : ag_ ρ ρ' L') (h2 : ∀ k ∈ [6, 7, 16, 51, 52], k ∉ L') (h : gD ρ T q) : gD ρ' T q := by
  unfold gD at *
  simp only [b.at 6 (h2 6 (by decide)), b.at 7 (h2 7 (by decide)), b.at 16 (h2 16 (by decide)), b.at 51 (h2 51 (by decide)), b.at 52 (h2 52 (by decide))]
  exact h
theorem gX.ag (a : ag_ σ σ' L) (b : ag_ ρ ρ' L') (h1 : ∀ k ∈ [31, 32, 33, 34, 35, 36, 37, 38], k ∉ L) (h2 : ∀ k ∈ [31, 32, 33, 34, 35, 36, 37, 38, 39, 51], k ∉ L') (h : gX σ ρ) : gX σ' ρ' := by
  unfold gX at *
  simp only [a.at 31 (h1 31 (by decide)), a.at 32 (h1 32 (by decide)), a.at 33 (h1 33 (by decide)), a.at 34 (h1 34 (by decide)), a.at 35 (h1 35 (by decide)), a.at 36 (h1 36 (by decide)), a.at 37 (h1 37 (by decide)), a.at 38 (h1 38 (by decide)), b.at 31 (h2 31 (by decide)), b.at 32 (h2 32 (by decide)), b.at 33 (h2 33 (by decide)), b.at 34 (h2 34 (by decide)), b.at 35 (h2 35 (by decide)), b.at 36 (h2 36 (by decide)), b.at 37 (h2 37 (by decide)), b.at 38 (h2 38 (by decide)), b.at 39 (h2 39 (by decide)), b.at 51 (h2 51 (by decide))]
  exact h
theorem gV.ag (b : ag_ ρ ρ' L') (h2 : ∀ k ∈ [31, 34, 37], k ∉ L') (h : gV ρ q) : gV ρ' q := by
  unfold gV at *
  simp only [b.at 31 (h2 31 (by decide)), b.at 34 (h2 34 (by decide)), b.at 37 (h2 37 (by decide))]
  exact h
theorem gI.ag (b : ag_ ρ ρ' L') (h2 : ∀ k ∈ [40, 41, 48], k ∉ L') (h : gI ρ q) : gI ρ' q := by
  unfold gI at *
  simp only [b.at 40 (h2 40 (by decide)), b.at 41 (h2 41 (by decide)), b.at 48 (h2 48 (by decide))]
  exact h
theorem gP.ag (a : ag_ σ σ' L) (b : ag_ ρ ρ' L') (h1 : ∀ k ∈ [19, 20, 21, 41, 42], k ∉ L) (h2 : ∀ k ∈ [0, 1, 2, 3, 4], k ∉ L') (h : gP σ ρ) : gP σ' ρ' := by
  unfold gP hd_ at *
  simp only [a.at 19 (h1 19 (by decide)), a.at 20 (h1 20 (by decide)), a.at 21 (h1 21 (by decide)), a.at 41 (h1 41 (by decide)), a.at 42 (h1 42 (by decide)), b.at 0 (h2 0 (by decide)), b.at 1 (h2 1 (by decide)), b.at 2 (h2 2 (by decide)), b.at 3 (h2 3 (by decide)), b.at 4 (h2 4 (by decide))]
  exact h
theorem gH.ag {q' : Nat → List Nat} {T' : Nat} (a : ag_ σ σ' L) (h1 : ∀ k ∈ [24, 25], k ∉ L) (hh : ∀ o, hc_ ρ' o = hc_ ρ o) (hp : ∀ o, pc_ ρ' T' (q' 33).length o = pc_ ρ T (q 33).length o) (h : gH σ ρ T q) : gH σ' ρ' T' q' := fun o ho => by
  rw [a.at 24 (h1 24 (by decide)), a.at 25 (h1 25 (by decide)), hh, hp]
  exact h o ho
theorem ob_.ag {o : Nat} (a : ag_ σ σ' L) (b : ag_ ρ ρ' L') (h1 : ∀ k ∈ [22, 26, 27, 28, 29, 30, 43, 44, 45], k ∉ L) (h2 : ∀ k ∈ [19, 20, 21, 22, 24, 25, 26, 27, 28, 29, 30], k ∉ L') (h : ob_ σ ρ o) : ob_ σ' ρ' o := by
  unfold ob_ at *
  simp only [a.at 22 (h1 22 (by decide)), a.at 26 (h1 26 (by decide)), a.at 27 (h1 27 (by decide)), a.at 28 (h1 28 (by decide)), a.at 29 (h1 29 (by decide)), a.at 30 (h1 30 (by decide)), a.at 43 (h1 43 (by decide)), a.at 44 (h1 44 (by decide)), a.at 45 (h1 45 (by decide)), b.at 19 (h2 19 (by decide)), b.at 20 (h2 20 (by decide)), b.at 21 (h2 21 (by decide)), b.at 22 (h2 22 (by decide)), b.at 24 (h2 24 (by decide)), b.at 25 (h2 25 (by decide)), b.at 26 (h2 26 (by decide)), b.at 27 (h2 27 (by decide)), b.at 28 (h2 28 (by decide)), b.at 29 (h2 29 (by decide)), b.at 30 (h2 30 (by decide))]
  exact h
theorem gO.ag {q' : Nat → List Nat} {T' : Nat} (a : ag_ σ σ' L) (b : ag_ ρ ρ' L') (h1 : ∀ k ∈ [22, 23, 26, 27, 28, 29, 30, 43, 44, 45], k ∉ L) (h2 : ∀ k ∈ [19, 20, 21, 22, 23, 24, 25, 26, 27, 28, 29, 30], k ∉ L') (hh : ∀ o, hc_ ρ' o = hc_ ρ o) (hp : ∀ o, pc_ ρ' T' (q' 33).length o = pc_ ρ T (q 33).length o) (h : gO σ ρ T q) : gO σ' ρ' T' q' := by
  refine ⟨fun o ho => by rw [b.at 19 (h2 19 (by decide))]; exact h.1 o ho, fun o ho ht => ?_⟩
  have ht2 : th_ ρ T q o := by
    unfold th_ at *
    rw [hh, hp] at ht
    exact ht
  obtain ⟨x, y⟩ := h.2 o ho ht2
  refine ⟨x.ag a b (fun k hk => h1 k (by revert hk; simp; omega)) (fun k hk => h2 k (by revert hk; simp; omega)), fun z => ?_⟩
  rw [hh] at z
  rw [a.at 23 (h1 23 (by decide)), b.at 23 (h2 23 (by decide))]
  exact y z
/-- the counts: what they depend on -/
theorem hc_.ag (b : ag_ ρ ρ' L') (h2 : 3 ∉ L') (o : Int32) : hc_ ρ' o = hc_ ρ o := hc_eq (fun d => b.at 3 h2 0 d) o
theorem pc_.ag {K : Nat} (b : ag_ ρ ρ' L') (h2 : ∀ k ∈ [17, 31, 34, 36, 40], k ∉ L') (h7 : ∀ t, t < T → (ρ' 7 0 t = 2 ↔ ρ 7 0 t = 2)) (o : Int32) : pc_ ρ' T K o = pc_ ρ T K o := by
  unfold pc_
  rw [cn_congr (c := pw_ ρ' o) (d := pw_ ρ o) (fun j hj => by
      have := h7 (j / 3) (by omega)
      simp only [pw_, this, b.at 17 (h2 17 (by decide))]), cn_congr (c := pd_ ρ' o) (d := pd_ ρ o) (fun j _ => by simp only [pd_, b.at 31 (h2 31 (by decide)), b.at 34 (h2 34 (by decide))]), cn_congr (c := ps_ ρ' o) (d := ps_ ρ o) (fun j _ => by simp only [ps_, b.at 31 (h2 31 (by decide)), b.at 36 (h2 36 (by decide))]), cn_congr (c := pi_ ρ' o) (d := pi_ ρ o) (fun j _ => by simp only [pi_, b.at 40 (h2 40 (by decide))])]
end EDAG
