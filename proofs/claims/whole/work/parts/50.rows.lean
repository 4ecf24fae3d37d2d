/-! ===== the pure part: rows as lists ===== -/
theorem vG_at {α : Type} {j n : Nat} {f : Nat → Option α} (h : j < n) (hn : n < 2 ^ 31) : vG (nI j) n f = f j := by
  unfold vG
  rw [if_pos (nI_in h hn), nI_clamp (by omega)]
theorem vB1_at {β : Type} {o : Option ed_S} {f : ed_S → Option β} {σ : ed_S} (h : o = some σ) : vB1 o f = f σ := by rw [h]; rfl
theorem vB2_at {β : Type} {o : Option (Int32 × ed_S)} {f : Int32 → ed_S → Option β} {r : Int32} {σ : ed_S} (h : o = some (r, σ)) : vB2 o f = f r σ := by rw [h]; rfl
theorem vBr_at {β : Type} {o : Option (Nat × ed_S)} {n : Nat} {f : Nat → ed_S → Option β} {r : Nat} {σ : ed_S} (h : o = some (r, σ)) (hr : r < n) : vBr o n f = f r σ := by
  rw [h]
  show (if r < n then f r σ else none) = f r σ
  rw [if_pos hr]
theorem vC_at {β : Type} {c : Prop} [Decidable c] {o : Option β} (h : c) : vC c o = o := if_pos h
theorem ed_st_s (σ : ed_S) (k i j : Nat) (v : Int32) : ed_st σ k i j v k i j = v := if_pos ⟨rfl, rfl, rfl⟩
theorem ed_st_n {σ : ed_S} {k i j a b d : Nat} {v : Int32} (h : ¬ (a = k ∧ b = i ∧ d = j)) : ed_st σ k i j v a b d = σ a b d := if_neg h
theorem ed_cap8 (r : Nat) : ed_cap r ≤ 8 := by unfold ed_cap; split <;> omega
/-- row r of the class holds the list l -/
def rw_ (σ : ed_S) (r : Nat) (l : List Nat) : Prop := σ 18 r 0 = nI l.length ∧ l.length ≤ ed_cap r ∧ ∀ j v, l[j]? = some v → σ 39 r j = nI v
/-- nothing but row r has changed -/
def fr_ (σ σ' : ed_S) (r : Nat) : Prop := ∀ k i j, ¬ (i = r ∧ (k = 18 ∨ k = 39)) → σ' k i j = σ k i j
theorem fr_.rf {σ : ed_S} {r : Nat} : fr_ σ σ r := fun _ _ _ _ => rfl
theorem fr_.tr {σ σ1 σ2 : ed_S} {r : Nat} (h : fr_ σ σ1 r) (h2 : fr_ σ1 σ2 r) : fr_ σ σ2 r := fun k i j q => (h2 k i j q).trans (h k i j q)
theorem fr_18 {σ : ed_S} {r : Nat} {v : Int32} : fr_ σ (ed_st σ 18 r 0 v) r := fun k i j q => ed_st_n (fun h => q ⟨h.2.1, Or.inl h.1⟩)
theorem fr_39 {σ : ed_S} {r d : Nat} {v : Int32} : fr_ σ (ed_st σ 39 r d v) r := fun k i j q => ed_st_n (fun h => q ⟨h.2.1, Or.inr h.1⟩)
theorem rw_.keep {σ σ' : ed_S} {r q : Nat} {l : List Nat} (h : rw_ σ q l) (hf : fr_ σ σ' r) (hne : q ≠ r) : rw_ σ' q l := by
  refine ⟨?_, h.2.1, fun j v hj => ?_⟩
  · rw [hf 18 q 0 (fun z => hne z.1)]; exact h.1
  · rw [hf 39 q j (fun z => hne z.1)]; exact h.2.2 j v hj
theorem row_addLast {σ : ed_S} {r x : Nat} {l : List Nat} (h : rw_ σ r l) (hc : l.length < ed_cap r) : ∃ σ', F_Row_addLast r (nI x) σ = some σ' ∧ fr_ σ σ' r ∧ rw_ σ' r (l ++ [x]) := by
  have c8 := ed_cap8 r
  unfold F_Row_addLast
  rw [h.1, if_neg (nI_ge hc (by omega)), vG_at hc (by omega)]
  refine ⟨_, rfl, fr_39.tr fr_18, ?_, by simp; omega, fun j v hj => ?_⟩
  · rw [ed_st_s, ed_st_n (by omega), h.1]
    simp [nI_1]
  · rw [ed_st_n (by omega)]
    by_cases hjl : j < l.length
    · rw [List.getElem?_append_left hjl] at hj
      rw [ed_st_n (by omega)]
      exact h.2.2 j v hj
    · rw [List.getElem?_append_right (by omega)] at hj
      have hz : j - l.length < 1 := (List.getElem?_eq_some_iff.mp hj).1
      have hj0 : j = l.length := by omega
      subst hj0
      rw [Nat.sub_self] at hj
      cases hj
      rw [ed_st_s]
theorem row_first {σ : ed_S} {r : Nat} {l : List Nat} (h : rw_ σ r l) : F_Row_first r σ = some ((match l with | [] => -1 | x :: _ => nI x), σ) := by
  have c8 := ed_cap8 r
  unfold F_Row_first
  cases l with
  | nil => rw [if_pos (by rw [h.1]; decide)]
  | cons x l =>
    have hl := h.2.1
    simp only [List.length_cons] at hl
    rw [if_neg (by rw [h.1]; exact nI_nle (by simp) (by simp; omega))]
    have e := vG_at (α := Int32 × ed_S) (j := 0) (n := ed_cap r) (f := fun j2 => some (σ 39 r j2, σ)) (by omega) (by omega)
    rw [show (0 : Int32) = nI 0 from rfl]
    refine e.trans ?_
    rw [h.2.2 0 x rfl]
theorem row_get {σ : ed_S} {r k : Nat} {l : List Nat} {x : Nat} (h : rw_ σ r l) (hk : l[k]? = some x) : F_Row_get r (nI k) σ = some (nI x, σ) := by
  have c8 := ed_cap8 r
  have hl := h.2.1
  have hkl : k < l.length := (List.getElem?_eq_some_iff.mp hk).1
  unfold F_Row_get
  rw [if_neg (nI_pos (by omega)), h.1, if_neg (nI_ge hkl (by omega)), vG_at (by omega) (by omega), h.2.2 k x hk]
/-- the shift to the left: places below k are shifted already -/
theorem row_shl {r : Nat} {x : Int32} (l : List Nat) (hl : l.length + 1 ≤ ed_cap r) : ∀ (n k : Nat) (σ : ed_S), l.length < n + k → k ≤ l.length → σ 18 r 0 = nI l.length → (∀ j v, j < k → l[j]? = some v → σ 39 r j = nI v) → (∀ j v, k ≤ j → l[j]? = some v → σ 39 r (j + 1) = nI v) →
    ∃ σ', F_Row_removeFirst_28 n r x (nI k) σ = some (x, σ') ∧ fr_ σ σ' r ∧ rw_ σ' r l := by
  have c8 := ed_cap8 r
  intro n
  induction n with
  | zero => intro k σ h1 h2; omega
  | succ n ih =>
    intro k σ h1 h2 hs ha hb
    rcases Nat.lt_or_ge k l.length with hk | hk
    · have e : F_Row_removeFirst_28 (n + 1) r x (nI k) σ = F_Row_removeFirst_28 n r x (nI (k + 1)) (ed_st σ 39 r k (σ 39 r (k + 1))) := by
        show (if (σ 18 r 0) ≤ nI k then _ else _) = _
        rw [hs, if_neg (nI_ge hk (by omega)), nI_1, vG_at (by omega) (by omega), vG_at (by omega) (by omega)]
        rfl
      rw [e]
      obtain ⟨σ', e2, f2, g2⟩ := ih (k + 1) (ed_st σ 39 r k (σ 39 r (k + 1))) (by omega) (by omega) (by rw [ed_st_n (by omega)]; exact hs)
        (fun j v hj hv => by
          by_cases q : j = k
          · subst q
            rw [ed_st_s]
            exact hb j v (Nat.le_refl _) hv
          · rw [ed_st_n (by omega)]
            exact ha j v (by omega) hv)
        (fun j v hj hv => by
          rw [ed_st_n (by omega)]
          exact hb j v (by omega) hv)
      exact ⟨σ', e2, fr_39.tr f2, g2⟩
    · refine ⟨σ, ?_, fr_.rf, hs, by omega, fun j v hv => ha j v ?_ hv⟩
      · show (if (σ 18 r 0) ≤ nI k then _ else _) = _
        rw [hs, if_pos (nI_le hk (by omega))]
      · have := (List.getElem?_eq_some_iff.mp hv).1
        omega
theorem row_removeFirst {σ : ed_S} {r x : Nat} {l : List Nat} (h : rw_ σ r (x :: l)) : ∃ σ', F_Row_removeFirst r σ = some (nI x, σ') ∧ fr_ σ σ' r ∧ rw_ σ' r l := by
  have c8 := ed_cap8 r
  have hl := h.2.1
  simp only [List.length_cons] at hl
  have e : F_Row_removeFirst r σ = F_Row_removeFirst_28 ed_fu r (nI x) (nI 0) (ed_st σ 18 r 0 (nI l.length)) := by
    unfold F_Row_removeFirst
    rw [h.1]
    simp only [List.length_cons]
    rw [if_neg (nI_ne0 (by omega) (by omega)), show (0 : Int32) = nI 0 from rfl, vG_at (by omega) (by omega), nI_pred, h.2.2 0 x rfl]
    rfl
  rw [e]
  obtain ⟨σ', e2, f2, g2⟩ := row_shl (x := nI x) l (by omega) ed_fu 0 (ed_st σ 18 r 0 (nI l.length)) (by show _ < 64 + 0; omega) (Nat.zero_le _) (ed_st_s _ _ _ _ _) (fun j v hj => by omega) (fun j v _ hv => by
    rw [ed_st_n (by omega)]
    exact h.2.2 (j + 1) v (by simpa using hv))
  exact ⟨σ', e2, fr_18.tr f2, g2⟩
theorem row_removeNone {σ : ed_S} {r : Nat} (h : rw_ σ r []) : F_Row_removeFirst r σ = some (-1, σ) := by
  unfold F_Row_removeFirst
  rw [h.1, if_pos (show nI ([] : List Nat).length = 0 from rfl)]
/-- the shift to the right: places above k are shifted already -/
theorem row_shr {r y : Nat} (l : List Nat) (hl : l.length + 1 ≤ ed_cap r) : ∀ (k n : Nat) (σ : ed_S), k < n → k ≤ l.length → σ 18 r 0 = nI l.length → (∀ j v, j < k → l[j]? = some v → σ 39 r j = nI v) → (∀ j v, k ≤ j → l[j]? = some v → σ 39 r (j + 1) = nI v) →
    ∃ σ', F_Row_addFirst_17 n r (nI y) (nI k) σ = some σ' ∧ fr_ σ σ' r ∧ rw_ σ' r (y :: l) := by
  have c8 := ed_cap8 r
  intro k
  induction k with
  | zero =>
    intro n σ h1 h2 hs ha hb
    obtain ⟨n, rfl⟩ : ∃ z, n = z + 1 := ⟨n - 1, by omega⟩
    have e : F_Row_addFirst_17 (n + 1) r (nI y) (nI 0) σ = some (ed_st (ed_st σ 39 r 0 (nI y)) 18 r 0 (nI (l.length + 1))) := by
      show (if nI 0 ≤ 0 then _ else _) = _
      rw [if_pos (by decide), show (0 : Int32) = nI 0 from rfl, vG_at (by omega) (by omega)]
      show some _ = _
      rw [ed_st_n (by omega), hs, nI_1]
    refine ⟨_, e, fr_39.tr fr_18, ed_st_s _ _ _ _ _, by simp; omega, fun j v hj => ?_⟩
    rw [ed_st_n (by omega)]
    cases j with
    | zero =>
      cases hj
      rw [ed_st_s]
    | succ j =>
      rw [ed_st_n (by omega)]
      exact hb j v (Nat.zero_le _) (by simpa using hj)
  | succ k ih =>
    intro n σ h1 h2 hs ha hb
    obtain ⟨n, rfl⟩ : ∃ z, n = z + 1 := ⟨n - 1, by omega⟩
    have e : F_Row_addFirst_17 (n + 1) r (nI y) (nI (k + 1)) σ = F_Row_addFirst_17 n r (nI y) (nI k) (ed_st σ 39 r (k + 1) (σ 39 r k)) := by
      show (if nI (k + 1) ≤ 0 then _ else _) = _
      rw [if_neg (nI_nle (by omega) (by omega)), nI_pred, vG_at (by omega) (by omega), vG_at (by omega) (by omega)]
      show F_Row_addFirst_17 n r (nI y) (nI (k + 1) + -1) _ = _
      rw [pk_m1]
    rw [e]
    obtain ⟨σ', e2, f2, g2⟩ := ih n (ed_st σ 39 r (k + 1) (σ 39 r k)) (by omega) (by omega) (by rw [ed_st_n (by omega)]; exact hs)
      (fun j v hj hv => by
        rw [ed_st_n (by omega)]
        exact ha j v (by omega) hv)
      (fun j v hj hv => by
        by_cases q : j = k
        · subst q
          rw [ed_st_s]
          exact ha j v (by omega) hv
        · rw [ed_st_n (by omega)]
          exact hb j v (by omega) hv)
    exact ⟨σ', e2, fr_39.tr f2, g2⟩
theorem row_addFirst {σ : ed_S} {r y : Nat} {l : List Nat} (h : rw_ σ r l) (hc : l.length < ed_cap r) : ∃ σ', F_Row_addFirst r (nI y) σ = some σ' ∧ fr_ σ σ' r ∧ rw_ σ' r (y :: l) := by
  have c8 := ed_cap8 r
  have e : F_Row_addFirst r (nI y) σ = F_Row_addFirst_17 ed_fu r (nI y) (nI l.length) σ := by
    unfold F_Row_addFirst
    rw [h.1, if_neg (nI_ge hc (by omega))]
  rw [e]
  exact row_shr l hc l.length ed_fu σ (by show _ < 64; omega) (Nat.le_refl _) h.1 (fun j v _ hv => h.2.2 j v hv) (fun j v hj hv => by
    have := (List.getElem?_eq_some_iff.mp hv).1
    omega)

theorem row_rv {r v : Nat} (l : List Nat) (hl : l.length ≤ ed_cap r) (hv : v < 2 ^ 31) (hb : ∀ w ∈ l, w < 2 ^ 31) : ∀ (n a : Nat) (p : List Nat) (σ : ed_S), l.length < n + a → a ≤ l.length → p = (l.take a).filter (fun w => w != v) → σ 18 r 0 = nI l.length → (∀ j w, p[j]? = some w → σ 39 r j = nI w) → (∀ j w, a ≤ j → l[j]? = some w → σ 39 r j = nI w) →
    ∃ σ', F_Row_removeValue_4 n r (nI v) (nI p.length) (nI a) σ = some σ' ∧ fr_ σ σ' r ∧ rw_ σ' r (l.filter (fun w => w != v)) := by
  have c8 := ed_cap8 r
  intro n
  induction n with
  | zero => intro a p σ h1 h2; omega
  | succ n ih =>
    intro a p σ h1 h2 hp hs hx hy
    have hpl : p.length ≤ a := by
      rw [hp]
      refine Nat.le_trans (List.length_filter_le _ _) ?_
      rw [List.length_take]
      omega
    rcases Nat.lt_or_ge a l.length with ha | ha
    · obtain ⟨w, hw⟩ : ∃ w, l[a]? = some w := ⟨l[a], List.getElem?_eq_getElem ha⟩
      have hwb : w < 2 ^ 31 := hb w (List.mem_of_getElem? hw)
      have htk : l.take (a + 1) = l.take a ++ [w] := by rw [List.take_add_one, hw]; rfl
      have hit : σ 39 r a = nI w := hy a w (Nat.le_refl _) hw
      by_cases hwv : w = v
      · have e : F_Row_removeValue_4 (n + 1) r (nI v) (nI p.length) (nI a) σ = F_Row_removeValue_4 n r (nI v) (nI p.length) (nI (a + 1)) σ := by
          show (if (σ 18 r 0) ≤ nI a then _ else _) = _
          rw [hs, if_neg (nI_ge ha (by omega)), vG_at (by omega) (by omega), hit, if_pos (by rw [hwv]), nI_1]
        rw [e]
        exact ih (a + 1) p σ (by omega) (by omega) (by rw [htk, List.filter_append, hp]; simp [hwv]) hs hx (fun j z hj hz => hy j z (by omega) hz)
      · have e : F_Row_removeValue_4 (n + 1) r (nI v) (nI p.length) (nI a) σ = F_Row_removeValue_4 n r (nI v) (nI (p ++ [w]).length) (nI (a + 1)) (ed_st σ 39 r p.length (nI w)) := by
          show (if (σ 18 r 0) ≤ nI a then _ else _) = _
          rw [hs, if_neg (nI_ge ha (by omega)), vG_at (by omega) (by omega), hit, if_neg (fun q => hwv ((nI_eq hwb hv).mp q)), vG_at (by omega) (by omega), vG_at (by omega) (by omega), hit, nI_1, nI_1]
          simp only [List.length_append, List.length_cons, List.length_nil]
          rfl
        rw [e]
        obtain ⟨σ', e2, f2, g2⟩ := ih (a + 1) (p ++ [w]) (ed_st σ 39 r p.length (nI w)) (by omega) (by omega) (by rw [htk, List.filter_append, hp]; simp [hwv]) (by rw [ed_st_n (by omega)]; exact hs)
          (fun j z hz => by
            by_cases hj : j < p.length
            · rw [List.getElem?_append_left hj] at hz
              rw [ed_st_n (by omega)]
              exact hx j z hz
            · rw [List.getElem?_append_right (by omega)] at hz
              have hz1 : j - p.length < 1 := (List.getElem?_eq_some_iff.mp hz).1
              have hj0 : j = p.length := by omega
              subst hj0
              rw [Nat.sub_self] at hz
              cases hz
              rw [ed_st_s])
          (fun j z hj hz => by
            rw [ed_st_n (by omega)]
            exact hy j z (by omega) hz)
        exact ⟨σ', e2, fr_39.tr f2, g2⟩
    · have hal : a = l.length := by omega
      have hpf : p = l.filter (fun w => w != v) := by rw [hp, hal, List.take_length]
      refine ⟨ed_st σ 18 r 0 (nI p.length), ?_, fr_18, ?_, ?_, fun j z hz => ?_⟩
      · show (if (σ 18 r 0) ≤ nI a then _ else _) = _
        rw [hs, if_pos (nI_le ha (by omega))]
        rfl
      · rw [ed_st_s, hpf]
      · rw [← hpf]; omega
      · rw [ed_st_n (by omega)]
        exact hx j z (by rw [hpf]; exact hz)
theorem row_removeValue {σ : ed_S} {r v : Nat} {l : List Nat} (h : rw_ σ r l) (hv : v < 2 ^ 31) (hb : ∀ w ∈ l, w < 2 ^ 31) : ∃ σ', F_Row_removeValue r (nI v) σ = some σ' ∧ fr_ σ σ' r ∧ rw_ σ' r (l.filter (fun w => w != v)) := by
  have c8 := ed_cap8 r
  have hl := h.2.1
  exact row_rv l h.2.1 hv hb ed_fu 0 [] σ (by show _ < 64 + 0; omega) (Nat.zero_le _) (by simp) h.1 (fun j w hw => by simp at hw) (fun j w _ hw => h.2.2 j w hw)
