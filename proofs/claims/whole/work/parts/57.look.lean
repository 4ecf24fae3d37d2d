/-! ===== the pure part: who runs, looked at ===== -/
theorem nd_len : ∀ (n : Nat) (l : List Nat), l.Nodup → (∀ x ∈ l, x < n) → l.length ≤ n := by
  intro n
  induction n with
  | zero =>
    intro l _ h
    cases l with
    | nil => exact Nat.le_refl _
    | cons a l => exact absurd (h a List.mem_cons_self) (by omega)
  | succ n ih =>
    intro l hn h
    by_cases c : n ∈ l
    · have h1 := ih (l.erase n) (hn.erase n) (fun x hx => by
        have h2 := (List.Nodup.mem_erase_iff hn).mp hx
        have h3 := h x h2.2
        have h4 := h2.1
        omega)
      rw [List.length_erase_of_mem c] at h1
      omega
    · exact Nat.le_succ_of_le (ih l hn (fun x hx => by
        have h3 := h x hx
        have h4 : x ≠ n := fun z => c (z ▸ hx)
        omega))
theorem pw_nd {l : List Nat} {key : Nat → Int32} (h : l.Pairwise (fun a b => key a < key b)) : l.Nodup := List.Pairwise.imp (S := fun a b => a ≠ b) (fun {a b} z (w : a = b) => by subst w; exact lt_irr _ z) h
/-- no wrap yet -/
def nw_ (ρ : ed_S) : Prop := -2000000000 < (ρ 52 0 0).toInt ∧ (ρ 52 0 0).toInt ≤ 0 ∧ 0 ≤ (ρ 51 0 0).toInt ∧ (ρ 51 0 0).toInt < 2000000000
theorem sub1 {x : Int32} (h : -2000000000 < x.toInt) : (x - 1).toInt = x.toInt - 1 := by
  have h1 : (1 : Int32).toInt = 1 := by decide
  rw [Int32.toInt_sub, h1]
  have h2 := x.toInt_lt
  rw [Int.bmod_eq_of_le]
  · omega
  · omega
theorem add1 {x : Int32} (h : x.toInt < 2000000000) : (x + 1).toInt = x.toInt + 1 := by
  have h1 : (1 : Int32).toInt = 1 := by decide
  rw [Int32.toInt_add, h1]
  have h2 := x.le_toInt
  rw [Int.bmod_eq_of_le]
  · omega
  · omega
/-- the one that runs goes to the front of its row -/
theorem s_pre {σ ρ : ed_S} {T P p t : Nat} {q : Nat → List Nat} (hN : gN σ ρ T P q) (ht : t < T) (h0 : ρ 7 0 t = 0) (hp : p < 8) (hpr : ρ 6 0 t = nI p) (hw : nw_ ρ) :
    ∃ σ', F_Row_addFirst (8 + p) (nI t) (ed_st σ 10 t 0 1) = some σ' ∧ gN σ' (ed_st (ed_st (ed_st ρ 7 0 t 1) 52 0 0 (ρ 52 0 0 - 1)) 16 0 t (ρ 52 0 0 - 1)) T P (va_up q (8 + p) (t :: q (8 + p))) ∧ ag_ σ σ' [10, 18, 39] := by
  obtain ⟨nQ, nA, nT, nU, nC, nW, nD, nX, nV, nI', nP, nH, nO⟩ := hN
  have hT8 := nA.2.1
  have hsort := (nD.1 p hp).1
  have htq : ∀ x, x < 8 → t ∉ q (8 + x) := fun x hx z => by
    have := ((nD.1 x hx).2 t).mp z
    rw [h0] at this
    exact absurd this.2.1 (by decide)
  have hlen : (q (8 + p)).length < ed_cap (8 + p) := by
    have h1 : (t :: q (8 + p)).length ≤ 8 := nd_len 8 _ (List.nodup_cons.mpr ⟨htq p hp, pw_nd hsort⟩) (fun x hx => by
      rcases List.mem_cons.mp hx with e | e
      · omega
      · have := (((nD.1 p hp).2 x).mp e).1
        omega)
    simp only [List.length_cons] at h1
    have h2 : ed_cap (8 + p) = 8 := if_neg (by omega)
    omega
  have hrow : rw_ (ed_st σ 10 t 0 1) (8 + p) (q (8 + p)) := (nQ (8 + p) (by omega)).st (by decide) (by decide)
  obtain ⟨σ', e1, f1, g1⟩ := row_addFirst (y := t) hrow hlen
  obtain ⟨ρ', hρ'⟩ : ∃ z, z = ed_st (ed_st (ed_st ρ 7 0 t 1) 52 0 0 (ρ 52 0 0 - 1)) 16 0 t (ρ 52 0 0 - 1) := ⟨_, rfl⟩
  refine ⟨σ', e1, ?_, (ag_.rf.st (by decide)).fr f1 (by decide) (by decide)⟩
  rw [← hρ']
  have hA : ag_ σ σ' [10, 18, 39] := (ag_.rf.st (by decide)).fr f1 (by decide) (by decide)
  have hB : ag_ ρ ρ' [7, 16, 52] := by
    rw [hρ']
    exact ((ag_.rf.st (by decide)).st (by decide)).st (by decide)
  have s10 : ∀ u, σ' 10 u 0 = if u = t then 1 else σ 10 u 0 := fun u => by
    rw [f1 10 u 0 (by omega)]
    simp [ed_st]
  have r7 : ∀ u, ρ' 7 0 u = if u = t then 1 else ρ 7 0 u := fun u => by rw [hρ']; simp [ed_st]
  have r16 : ∀ u, ρ' 16 0 u = if u = t then ρ 52 0 0 - 1 else ρ 16 0 u := fun u => by rw [hρ']; simp [ed_st]
  have r52 : ρ' 52 0 0 = ρ 52 0 0 - 1 := by rw [hρ']; simp [ed_st]
  have i52 := sub1 hw.1
  have r72 : ∀ u, u < T → (ρ' 7 0 u = 2 ↔ ρ 7 0 u = 2) := fun u _ => by
    by_cases c : u = t
    · subst c
      rw [r7, if_pos rfl, h0]
      decide
    · rw [r7, if_neg c]
  have r71 : ∀ u, ρ' 7 0 u = 1 ↔ u = t ∨ ρ 7 0 u = 1 := fun u => by
    by_cases c : u = t
    · rw [r7, if_pos c]
      exact ⟨fun _ => Or.inl c, fun _ => rfl⟩
    · rw [r7, if_neg c]
      exact ⟨fun z => Or.inr z, fun z => z.resolve_left c⟩
  have hp33 : (va_up q (8 + p) (t :: q (8 + p))) 33 = q 33 := up_n (by omega)
  have hpc : ∀ o, pc_ ρ' T ((va_up q (8 + p) (t :: q (8 + p))) 33).length o = pc_ ρ T (q 33).length o := fun o => by rw [hp33]; exact pc_.ag hB (by decide) r72 o
  have hhc : ∀ o, hc_ ρ' o = hc_ ρ o := fun o => hc_.ag hB (by decide) o
  have mQ : gQ σ' (va_up q (8 + p) (t :: q (8 + p))) := by
    have h1 : gQ (ed_st σ 10 t 0 1) q := fun r hr => (nQ r hr).st (by decide) (by decide)
    exact h1.up f1 g1
  have mT : gT σ' ρ' T P := fun u hu => by
    obtain ⟨b1, b2, b3, b4, b5, b6, b7, b8, b9⟩ := nT u hu
    rw [hA.at 8 (by decide), hA.at 9 (by decide), hA.at 11 (by decide), hA.at 12 (by decide), hA.at 13 (by decide), hA.at 14 (by decide), hB.at 5 (by decide), hB.at 6 (by decide), hB.at 8 (by decide), hB.at 10 (by decide), hB.at 11 (by decide), hB.at 12 (by decide), s10, r7, b3]
    exact ⟨b1, b2, rfl, b4, b5, b6, b7, b8, b9⟩
  have mU : gU σ' ρ' T (va_up q (8 + p) (t :: q (8 + p))) := fun u hu hu8 => by
    have := (nU.ag hA hB (by decide) (by decide)) u hu hu8
    rw [up_n (by omega)]
    exact this
  have mC : gC ρ' T (va_up q (8 + p) (t :: q (8 + p))) := fun u hu => by
    have := (nC.ag hB (by decide)) u hu
    rw [up_n (by omega)]
    exact this
  have mW : gW σ' ρ' T (va_up q (8 + p) (t :: q (8 + p))) := by
    obtain ⟨w1, w2, w3, w4⟩ := nW
    refine ⟨?_, fun u => ?_, fun u hu h2 => ?_, fun u hu h2 => ?_⟩
    · rw [up_n (by omega)]
      simp only [hB.at 15 (by decide)]
      exact w1
    · rw [up_n (by omega), w2 u]
      exact ⟨fun z => ⟨z.1, (r72 u z.1).mpr z.2⟩, fun z => ⟨z.1, (r72 u z.1).mp z.2⟩⟩
    · have := w3 u hu ((r72 u hu).mp h2)
      simp only [hA.at 15 (by decide), hA.at 16 (by decide), hA.at 17 (by decide), hA.at 40 (by decide), hB.at 13 (by decide), hB.at 14 (by decide), hB.at 15 (by decide), hB.at 17 (by decide), hB.at 22 (by decide), hB.at 51 (by decide), pl_]
      exact this
    · rw [hB.at 13 (by decide)]
      exact w4 u hu (fun z => h2 ((r72 u hu).mpr z))
  have hst : ∀ u, u ≠ t → ρ' 16 0 u = ρ 16 0 u := fun u hu => by rw [r16, if_neg hu]
  have mD : gD ρ' T (va_up q (8 + p) (t :: q (8 + p))) := by
    refine ⟨fun x hx => ⟨?_, fun u => ?_⟩, fun u hu h1 => ?_⟩
    · have keep : ∀ y, y < 8 → (q (8 + y)).Pairwise (fun a b => ρ' 16 0 a < ρ' 16 0 b) := fun y hy => by
        refine List.Pairwise.imp_of_mem ?_ (nD.1 y hy).1
        intro a b ha hb z
        rw [hst a (fun w => htq y hy (w ▸ ha)), hst b (fun w => htq y hy (w ▸ hb))]
        exact z
      by_cases c : x = p
      · subst c
        rw [up_s]
        refine List.pairwise_cons.mpr ⟨fun b hb => ?_, keep x hx⟩
        rw [r16, if_pos rfl, hst b (fun w => htq x hx (w ▸ hb))]
        have hbr := ((nD.1 x hx).2 b).mp hb
        have h5 := (nD.2 b hbr.1 hbr.2.1).1
        rw [Int32.le_iff_toInt_le] at h5
        rw [Int32.lt_iff_toInt_lt, i52]
        omega
      · rw [up_n (by omega)]
        exact keep x hx
    · rw [hB.at 6 (by decide), r71]
      by_cases c : x = p
      · subst c
        rw [up_s, List.mem_cons, (nD.1 x hx).2 u]
        constructor
        · rintro (z | z)
          · subst z
            exact ⟨ht, Or.inl rfl, hpr⟩
          · exact ⟨z.1, Or.inr z.2.1, z.2.2⟩
        · rintro ⟨z1, z2 | z2, z3⟩
          · exact Or.inl z2
          · exact Or.inr ⟨z1, z2, z3⟩
      · rw [up_n (by omega), (nD.1 x hx).2 u]
        constructor
        · intro z
          exact ⟨z.1, Or.inr z.2.1, z.2.2⟩
        · rintro ⟨z1, z2 | z2, z3⟩
          · subst z2
            rw [hpr] at z3
            exact absurd ((nI_eq (by omega) (by omega)).mp z3).symm c
          · exact ⟨z1, z2, z3⟩
    · rw [hB.at 51 (by decide), r52]
      rcases (r71 u).mp h1 with z | z
      · subst z
        rw [r16, if_pos rfl]
        refine ⟨le_rf _, ?_⟩
        rw [Int32.le_iff_toInt_le, i52]
        have h6 := hw.2.1
        have h7 := hw.2.2.1
        omega
      · have hne : u ≠ t := fun w => by
          subst w
          rw [h0] at z
          exact absurd z (by decide)
        rw [hst u hne]
        have h5 := nD.2 u hu z
        refine ⟨?_, h5.2⟩
        have h6 := h5.1
        rw [Int32.le_iff_toInt_le] at h6
        rw [Int32.le_iff_toInt_le, i52]
        omega
  have mV : gV ρ' (va_up q (8 + p) (t :: q (8 + p))) := fun o ho => by
    have := (nV.ag hB (by decide)) o ho
    rw [up_n (by omega)]
    exact this
  have mI : gI ρ' (va_up q (8 + p) (t :: q (8 + p))) := by
    have := nI'.ag hB (by decide)
    unfold gI at *
    rw [hp33]
    exact this
  exact ⟨mQ, nA.ag hA hB (by decide) (by decide), mT, mU, mC, mW, mD, nX.ag hA hB (by decide) (by decide), mV, mI, nP.ag hA hB (by decide) (by decide), nH.ag hA (by decide) hhc hpc, nO.ag hA hB (by decide) (by decide) hhc hpc⟩
