/-! ===== the pure part: searches, counts ===== -/
/-- the first of a list, as an answer -/
def hi_ (l : List Nat) : Int32 := match l with
  | [] => -1
  | a :: _ => nI a
theorem mn_head {T : Nat} {c : Nat → Prop} {key : Nat → Int32} {x : Int32} {l : List Nat} (hm : mn_ T c key x) (hl : ∀ t, t ∈ l ↔ t < T ∧ c t) (hs : l.Pairwise (fun a b => key a < key b)) : x = hi_ l := by
  rcases hm with ⟨h1, h2⟩ | ⟨b, h1, h2, h3, h4⟩
  · cases l with
    | nil => exact h1
    | cons a l =>
      have := (hl a).mp List.mem_cons_self
      exact absurd this.2 (h2 a this.1)
  · cases l with
    | nil => exact absurd ((hl b).mpr ⟨h1, h3⟩) List.not_mem_nil
    | cons a l =>
      have ha := (hl a).mp List.mem_cons_self
      rcases List.mem_cons.mp ((hl b).mpr ⟨h1, h3⟩) with e | e
      · rw [h2, e]; rfl
      · have h5 := (List.pairwise_cons.mp hs).1 b e
        exact absurd h5 (nlt_of_le (h4 a ha.1 ha.2))
/-- the reference's firstOf: the least order among the pending ones of a device -/
theorem m_firstOf_4 {ρ : ed_S} (o : Int32) : ∀ (n k : Nat) (x : Int32), 8 < n + k → k ≤ 8 → mn_ k (fun i => ρ 31 0 i = 0 ∧ ρ 34 0 i = o) (fun i => ρ 37 0 i) x → ∃ y, F_Mod_firstOf_4 n o x (nI k) ρ = some (y, ρ) ∧ mn_ 8 (fun i => ρ 31 0 i = 0 ∧ ρ 34 0 i = o) (fun i => ρ 37 0 i) y := by
  intro n
  induction n with
  | zero => intro k x h1 h2; omega
  | succ n ih =>
    intro k x h1 h2 hm
    rcases Nat.lt_or_ge k 8 with hk | hk
    · have e : F_Mod_firstOf_4 (n + 1) o x (nI k) ρ = if ρ 31 0 k = 0 then (if ρ 34 0 k = o then (if x < 0 then F_Mod_firstOf_4 n o (nI k) (nI (k + 1)) ρ else (vG (nI k) 8 fun j13 => (vG x 8 fun j17 => (if (ρ 37 0 j17) ≤ (ρ 37 0 j13) then ((F_Mod_firstOf_4 n) o x (nI (k + 1)) ρ) else ((F_Mod_firstOf_4 n) o (nI k) (nI (k + 1)) ρ))))) else F_Mod_firstOf_4 n o x (nI (k + 1)) ρ) else F_Mod_firstOf_4 n o x (nI (k + 1)) ρ := by
        show (if (8 : Int32) ≤ nI k then _ else _) = _
        rw [show (8 : Int32) = nI 8 from rfl, if_neg (nI_ge hk (by omega)), vG_at (by omega) (by omega), vG_at (by omega) (by omega), nI_1]
      rw [e]
      by_cases c1 : ρ 31 0 k = 0
      · rw [if_pos c1]
        by_cases c2 : ρ 34 0 k = o
        · rw [if_pos c2]
          have hoi := mn_neg hm (by omega)
          by_cases c3 : x < 0
          · rw [if_pos c3]
            refine ih (k + 1) (nI k) (by omega) (by omega) (mn_new hm ⟨c1, c2⟩ (fun b hb hx => ?_))
            rw [hx] at c3
            exact absurd c3 (nI_pos (by omega))
          · rw [if_neg c3]
            rcases hoi with h | ⟨b, hb, h⟩
            · rw [h] at c3
              exact absurd (by decide) c3
            · subst h
              rw [vG_at (by omega) (by omega), vG_at (by omega) (by omega)]
              by_cases c4 : ρ 37 0 b ≤ ρ 37 0 k
              · rw [if_pos c4]
                exact ih (k + 1) (nI b) (by omega) (by omega) (mn_keep hm hb (by omega) c4)
              · rw [if_neg c4]
                refine ih (k + 1) (nI k) (by omega) (by omega) (mn_new hm ⟨c1, c2⟩ (fun b' hb' hx => ?_))
                have e2 : b = b' := (nI_eq (by omega) (by omega)).mp hx
                subst e2
                exact le_of_lt (lt_of_nle c4)
        · rw [if_neg c2]
          exact ih (k + 1) x (by omega) (by omega) (mn_step (T := 8) hm (fun q => c2 q.2))
      · rw [if_neg c1]
        exact ih (k + 1) x (by omega) (by omega) (mn_step (T := 8) hm (fun q => c1 q.1))
    · have hk8 : k = 8 := by omega
      subst hk8
      exact ⟨x, rfl, hm⟩
theorem m_firstOf {ρ : ed_S} {o : Int32} {l : List Nat} (hl : ∀ i, i ∈ l ↔ i < 8 ∧ ρ 31 0 i = 0 ∧ ρ 34 0 i = o) (hs : l.Pairwise (fun a b => ρ 37 0 a < ρ 37 0 b)) : F_Mod_firstOf o ρ = some (hi_ l, ρ) := by
  obtain ⟨y, h1, h2⟩ := m_firstOf_4 (ρ := ρ) o ed_fu 0 (-1) (by show _ < 64 + 0; omega) (Nat.zero_le _) (Or.inl ⟨rfl, fun t ht => by omega⟩)
  rw [← mn_head h2 hl hs]
  exact h1
/-- a search by any order -/
def ms_ (T : Nat) (c : Nat → Prop) (le : Nat → Nat → Prop) (x : Int32) : Prop := (x = -1 ∧ ∀ t, t < T → ¬ c t) ∨ ∃ b, b < T ∧ x = nI b ∧ c b ∧ ∀ t, t < T → c t → le b t
theorem ms_step {k : Nat} {c : Nat → Prop} {le : Nat → Nat → Prop} {x : Int32} (h : ms_ k c le x) (hc : ¬ c k) : ms_ (k + 1) c le x := by
  rcases h with ⟨h1, h2⟩ | ⟨b, h1, h2, h3, h4⟩
  · exact Or.inl ⟨h1, fun t ht q => by
      rcases Nat.lt_or_ge t k with z | z
      · exact h2 t z q
      · have : t = k := by omega
        subst this
        exact hc q⟩
  · exact Or.inr ⟨b, by omega, h2, h3, fun t ht q => by
      rcases Nat.lt_or_ge t k with z | z
      · exact h4 t z q
      · have : t = k := by omega
        subst this
        exact absurd q hc⟩
theorem ms_keep {k b : Nat} {c : Nat → Prop} {le : Nat → Nat → Prop} (h : ms_ k c le (nI b)) (hb : b < k) (hk : k < 2 ^ 31) (hle : le b k) : ms_ (k + 1) c le (nI b) := by
  rcases h with ⟨h1, h2⟩ | ⟨b', h1, h2, h3, h4⟩
  · exact absurd h1 (nI_m1 (by omega))
  · have e : b = b' := (nI_eq (by omega) (by omega)).mp h2
    subst e
    exact Or.inr ⟨b, by omega, rfl, h3, fun t ht q => by
      rcases Nat.lt_or_ge t k with z | z
      · exact h4 t z q
      · have : t = k := by omega
        subst this
        exact hle⟩
theorem ms_new {k : Nat} {c : Nat → Prop} {le : Nat → Nat → Prop} {x : Int32} (h : ms_ k c le x) (hc : c k) (hrf : le k k) (htr : ∀ b t, le k b → le b t → le k t) (hlt : ∀ b, b < k → x = nI b → le k b) : ms_ (k + 1) c le (nI k) := by
  refine Or.inr ⟨k, by omega, rfl, hc, fun t ht q => ?_⟩
  rcases Nat.lt_or_ge t k with z | z
  · rcases h with ⟨h1, h2⟩ | ⟨b, h1, h2, h3, h4⟩
    · exact absurd q (h2 t z)
    · exact htr b t (hlt b h1 h2) (h4 t z q)
  · have : t = k := by omega
    subst this
    exact hrf
theorem ms_oi {k : Nat} {c : Nat → Prop} {le : Nat → Nat → Prop} {x : Int32} (h : ms_ k c le x) : oi_ x k := by
  rcases h with ⟨h1, h2⟩ | ⟨b, h1, h2, h3, h4⟩
  · exact Or.inl h1
  · exact Or.inr ⟨b, h1, h2⟩
/-- the order of the ready ones: greater priority first, then who stands first -/
def bt_ (ρ : ed_S) (b t : Nat) : Prop := ρ 6 0 t < ρ 6 0 b ∨ (ρ 6 0 t = ρ 6 0 b ∧ ρ 16 0 b ≤ ρ 16 0 t)
theorem lt_tr {a b d : Int32} (h : a < b) (h2 : b < d) : a < d := by
  rw [Int32.lt_iff_toInt_lt] at *
  omega
theorem bt_tr (ρ : ed_S) (a b t : Nat) (h : bt_ ρ a b) (h2 : bt_ ρ b t) : bt_ ρ a t := by
  rcases h with h | ⟨h, h'⟩ <;> rcases h2 with q | ⟨q, q'⟩
  · exact Or.inl (lt_tr q h)
  · exact Or.inl (by rw [q]; exact h)
  · exact Or.inl (by rw [← h]; exact q)
  · exact Or.inr ⟨q.trans h, le_tr h' q'⟩
theorem m_next_4 {ρ : ed_S} {T : Nat} (hT : T ≤ 8) (hr : ρ 43 0 0 = nI T) : ∀ (n k : Nat) (x : Int32), T < n + k → k ≤ T → ms_ k (fun t => ρ 7 0 t = 1) (bt_ ρ) x → ∃ y, F_Mod_next_4 n x (nI k) ρ = some (y, ρ) ∧ ms_ T (fun t => ρ 7 0 t = 1) (bt_ ρ) y := by
  intro n
  induction n with
  | zero => intro k x h1 h2; omega
  | succ n ih =>
    intro k x h1 h2 hm
    rcases Nat.lt_or_ge k T with hk | hk
    · have e : F_Mod_next_4 (n + 1) x (nI k) ρ = if ρ 7 0 k = 1 then (if x < 0 then F_Mod_next_4 n (nI k) (nI (k + 1)) ρ else (vG x 8 fun j12 => (if (ρ 6 0 j12) < (ρ 6 0 k) then ((F_Mod_next_4 n) (nI k) (nI (k + 1)) ρ) else (vG x 8 fun j21 => (if (ρ 6 0 k) = (ρ 6 0 j21) then (vG x 8 fun j30 => (if (ρ 16 0 j30) ≤ (ρ 16 0 k) then ((F_Mod_next_4 n) x (nI (k + 1)) ρ) else ((F_Mod_next_4 n) (nI k) (nI (k + 1)) ρ))) else ((F_Mod_next_4 n) x (nI (k + 1)) ρ)))))) else F_Mod_next_4 n x (nI (k + 1)) ρ := by
        show (if (ρ 43 0 0) ≤ nI k then _ else _) = _
        rw [hr, if_neg (nI_ge hk (by omega)), vG_at (by omega) (by omega)]
        simp only [vG_at (show k < 8 by omega) (by omega), nI_1]
      rw [e]
      by_cases c1 : ρ 7 0 k = 1
      · rw [if_pos c1]
        have hnew : (∀ b, b < k → x = nI b → bt_ ρ k b) → ∃ y, F_Mod_next_4 n (nI k) (nI (k + 1)) ρ = some (y, ρ) ∧ ms_ T (fun t => ρ 7 0 t = 1) (bt_ ρ) y := fun q =>
          ih (k + 1) (nI k) (by omega) (by omega) (ms_new hm c1 (Or.inr ⟨rfl, le_rf _⟩) (fun b t => bt_tr ρ k b t) q)
        by_cases c3 : x < 0
        · rw [if_pos c3]
          refine hnew (fun b hb hx => ?_)
          rw [hx] at c3
          exact absurd c3 (nI_pos (by omega))
        · rw [if_neg c3]
          rcases ms_oi hm with h | ⟨b, hb, h⟩
          · rw [h] at c3
            exact absurd (by decide) c3
          · subst h
            simp only [vG_at (show b < 8 by omega) (show 8 < 2 ^ 31 by omega)]
            have hq : bt_ ρ k b → ∀ b', b' < k → nI b = nI b' → bt_ ρ k b' := fun q b' hb' hx => by
              have e2 : b = b' := (nI_eq (by omega) (by omega)).mp hx
              subst e2
              exact q
            by_cases c4 : ρ 6 0 b < ρ 6 0 k
            · rw [if_pos c4]
              exact hnew (hq (Or.inl c4))
            · rw [if_neg c4]
              by_cases c5 : ρ 6 0 k = ρ 6 0 b
              · rw [if_pos c5]
                by_cases c6 : ρ 16 0 b ≤ ρ 16 0 k
                · rw [if_pos c6]
                  exact ih (k + 1) (nI b) (by omega) (by omega) (ms_keep hm hb (by omega) (Or.inr ⟨c5, c6⟩))
                · rw [if_neg c6]
                  exact hnew (hq (Or.inr ⟨c5.symm, le_of_lt (lt_of_nle c6)⟩))
              · rw [if_neg c5]
                refine ih (k + 1) (nI b) (by omega) (by omega) (ms_keep hm hb (by omega) (Or.inl ?_))
                have h7 := le_of_nlt c4
                rw [Int32.le_iff_toInt_le] at h7
                rw [Int32.lt_iff_toInt_lt]
                have h8 : (ρ 6 0 k).toInt ≠ (ρ 6 0 b).toInt := fun z => c5 (Int32.toInt_inj.mp z)
                omega
      · rw [if_neg c1]
        exact ih (k + 1) x (by omega) (by omega) (ms_step hm c1)
    · have hkT : k = T := by omega
      subst hkT
      refine ⟨x, ?_, hm⟩
      show (if (ρ 43 0 0) ≤ nI k then _ else _) = _
      rw [hr, if_pos (nI_le (Nat.le_refl _) (by omega))]
theorem m_next {ρ : ed_S} {T : Nat} (hT : T ≤ 8) (hr : ρ 43 0 0 = nI T) : ∃ y, F_Mod_next ρ = some (y, ρ) ∧ ms_ T (fun t => ρ 7 0 t = 1) (bt_ ρ) y :=
  m_next_4 hT hr ed_fu 0 (-1) (by show _ < 64 + 0; omega) (Nat.zero_le _) (Or.inl ⟨rfl, fun t ht => by omega⟩)
/-- counts -/
def cn_ (n : Nat) (c : Nat → Bool) : Nat := match n with
  | 0 => 0
  | n + 1 => cn_ n c + (if c n then 1 else 0)
theorem cn_le (n : Nat) (c : Nat → Bool) : cn_ n c ≤ n := by
  induction n with
  | zero => exact Nat.le_refl _
  | succ n ih =>
    show cn_ n c + (if c n then 1 else 0) ≤ n + 1
    split <;> omega
theorem cn_congr {n : Nat} {c d : Nat → Bool} (h : ∀ j, j < n → c j = d j) : cn_ n c = cn_ n d := by
  induction n with
  | zero => rfl
  | succ n ih =>
    show cn_ n c + (if c n then 1 else 0) = cn_ n d + (if d n then 1 else 0)
    rw [ih (fun j hj => h j (by omega)), h n (by omega)]
/-- one place changes -/
theorem cn_upd {n : Nat} {c d : Nat → Bool} {k : Nat} (hk : k < n) (h : ∀ j, j < n → j ≠ k → c j = d j) : cn_ n c + (if d k then 1 else 0) = cn_ n d + (if c k then 1 else 0) := by
  induction n with
  | zero => omega
  | succ n ih =>
    show cn_ n c + (if c n then 1 else 0) + _ = cn_ n d + (if d n then 1 else 0) + _
    by_cases e : k = n
    · subst e
      rw [cn_congr (c := c) (d := d) (fun j hj => h j (by omega) (by omega))]
      omega
    · have h1 := ih (by omega) (fun j hj => h j (by omega))
      rw [h n (by omega) (by omega)]
      omega
theorem cn_pos {n : Nat} {c : Nat → Bool} {k : Nat} (hk : k < n) (h : c k = true) : 0 < cn_ n c := by
  induction n with
  | zero => omega
  | succ n ih =>
    show 0 < cn_ n c + (if c n then 1 else 0)
    by_cases e : k = n
    · subst e
      rw [if_pos h]
      omega
    · have := ih (by omega)
      omega
theorem cn_zero {n : Nat} {c : Nat → Bool} (h : cn_ n c = 0) : ∀ k, k < n → c k = false := by
  intro k hk
  cases e : c k with
  | false => rfl
  | true => exact absurd (cn_pos hk e) (by omega)
/-- how many handles there are to o -/
def hc_ (ρ : ed_S) (o : Int32) : Nat := cn_ 32 (fun q => decide (ρ 3 0 q = o))
theorem m_handles_4 {ρ : ed_S} (o : Int32) : ∀ (n k : Nat), 32 < n + k → k ≤ 32 → F_Mod_handles_4 n o (nI (cn_ k (fun q => decide (ρ 3 0 q = o)))) (nI k) ρ = some (nI (hc_ ρ o), ρ) := by
  intro n
  induction n with
  | zero => intro k h1 h2; omega
  | succ n ih =>
    intro k h1 h2
    rcases Nat.lt_or_ge k 32 with hk | hk
    · have e : F_Mod_handles_4 (n + 1) o (nI (cn_ k (fun q => decide (ρ 3 0 q = o)))) (nI k) ρ = F_Mod_handles_4 n o (nI (cn_ (k + 1) (fun q => decide (ρ 3 0 q = o)))) (nI (k + 1)) ρ := by
        show (if (32 : Int32) ≤ nI k then _ else _) = _
        rw [show (32 : Int32) = nI 32 from rfl, if_neg (nI_ge hk (by omega)), vG_at (by omega) (by omega), nI_1, nI_1]
        show _ = F_Mod_handles_4 n o (nI (cn_ k (fun q => decide (ρ 3 0 q = o)) + (if decide (ρ 3 0 k = o) then 1 else 0))) (nI (k + 1)) ρ
        by_cases q : ρ 3 0 k = o
        · simp [q]
        · simp [q]
      rw [e]
      exact ih (k + 1) (by omega) (by omega)
    · have hk8 : k = 32 := by omega
      subst hk8
      rfl
theorem m_handles (ρ : ed_S) (o : Int32) : F_Mod_handles o ρ = some (nI (hc_ ρ o), ρ) := m_handles_4 o ed_fu 0 (by show _ < 64 + 0; omega) (Nat.zero_le _)
