/-! ===== the pure part: searches ===== -/
theorem ix8 (p h : Nat) : 8 * nI p + nI h = nI (8 * p + h) := by
  rw [show (8 : Int32) = nI 8 from rfl, pk_mul, nI_add]
theorem ix3 (p h : Nat) : 3 * nI p + nI h = nI (3 * p + h) := by
  rw [show (3 : Int32) = nI 3 from rfl, pk_mul, nI_add]
theorem ix4 (p h : Nat) : 4 * nI p + nI h = nI (4 * p + h) := by
  rw [show (4 : Int32) = nI 4 from rfl, pk_mul, nI_add]
theorem nI_m1 {n : Nat} (h : n < 2 ^ 31) : ¬ nI n = -1 := by
  intro q
  have := congrArg Int32.toInt q
  rw [nI_toInt h] at this
  have e : (-1 : Int32).toInt = -1 := by decide
  rw [e] at this
  omega
/-- in range 0..n-1, or -1 -/
def oi_ (x : Int32) (n : Nat) : Prop := x = -1 ∨ ∃ o, o < n ∧ x = nI o
theorem oi_neg {x : Int32} {n : Nat} (h : oi_ x n) (hn : n < 2 ^ 31) : x < 0 ↔ x = -1 := by
  rcases h with h | ⟨o, ho, h⟩
  · subst h; decide
  · subst h
    exact ⟨fun q => absurd q (nI_pos (by omega)), fun q => absurd q (nI_m1 (by omega))⟩
theorem oi_nn {x : Int32} {n : Nat} (h : oi_ x n) (hn : n < 2 ^ 31) : 0 ≤ x ↔ ¬ x = -1 := by
  rcases h with h | ⟨o, ho, h⟩
  · subst h; decide
  · subst h
    exact ⟨fun _ => nI_m1 (by omega), fun _ => nI_pos' (by omega)⟩
/-- within bounds, as both sides ask it -/
def iw_ (x a b : Int32) : Int32 := if x < a then 0 else if b < x then 0 else 1
theorem d_is (x a b : Int32) (σ : ed_S) : F_Desk_isWithin x a b σ = some (iw_ x a b, σ) := by
  unfold F_Desk_isWithin iw_
  split
  · rfl
  · split <;> rfl
theorem m_is (x a b : Int32) (σ : ed_S) : F_Mod_is x a b σ = some (iw_ x a b, σ) := by
  unfold F_Mod_is iw_
  split
  · rfl
  · split <;> rfl
theorem iw_01 (x a b : Int32) : iw_ x a b = 0 ∨ iw_ x a b = 1 := by
  unfold iw_
  split
  · exact Or.inl rfl
  · split
    · exact Or.inl rfl
    · exact Or.inr rfl
/-- within 0..n-1 -/
theorem iw_nI {x : Int32} {n : Nat} {b : Int32} (hb : b.toInt = (n : Int) - 1) (hn : n < 2 ^ 31) (h : ¬ iw_ x 0 b = 0) : ∃ j, j < n ∧ x = nI j := by
  unfold iw_ at h
  by_cases h1 : x < 0
  · rw [if_pos h1] at h; exact absurd rfl h
  · rw [if_neg h1] at h
    by_cases h2 : b < x
    · rw [if_pos h2] at h; exact absurd rfl h
    · obtain ⟨j, hj, rfl⟩ := nI_of h1
      refine ⟨j, ?_, rfl⟩
      rw [Int32.lt_iff_toInt_lt, nI_toInt hj, hb] at h2
      omega
theorem iw_in {j n : Nat} {b : Int32} (hb : b.toInt = (n : Int) - 1) (hn : n < 2 ^ 31) (h : j < n) : iw_ (nI j) 0 b = 1 := by
  unfold iw_
  rw [if_neg (nI_pos (by omega)), if_neg]
  rw [Int32.lt_iff_toInt_lt, nI_toInt (by omega), hb]
  omega
/-- a process's handles on both sides -/
def hd_ (σ ρ : ed_S) (p : Nat) : Prop := ∀ h, h < 8 → σ 41 p h = ρ 3 0 (8 * p + h) ∧ σ 42 p h = ρ 4 0 (8 * p + h) ∧ oi_ (σ 41 p h) 16
theorem s_freeHandle {σ ρ : ed_S} {p t : Nat} (hp : p < 4) (ht : t < 8) (hr : ρ 44 0 0 = nI t) (hh : ρ 5 0 t = nI p) (H : hd_ σ ρ p) : ∀ (n k : Nat), 8 < n + k → k ≤ 8 → ∃ x, F_Proc_freeHandle_2 n p (nI k) σ = some (x, σ) ∧ F_Mod_freeHandle_2 n (nI k) ρ = some (x, ρ) ∧ (x = -1 ∨ ∃ h, h < 8 ∧ x = nI h ∧ σ 41 p h = -1) := by
  intro n
  induction n with
  | zero => intro k h1 h2; omega
  | succ n ih =>
    intro k h1 h2
    rcases Nat.lt_or_ge k 8 with hk | hk
    · obtain ⟨e1, e2, e3⟩ := H k hk
      have f1 : F_Proc_freeHandle_2 (n + 1) p (nI k) σ = if σ 41 p k = -1 then some (nI k, σ) else F_Proc_freeHandle_2 n p (nI (k + 1)) σ := by
        show (if (8 : Int32) ≤ nI k then _ else _) = _
        rw [show (8 : Int32) = nI 8 from rfl, if_neg (nI_ge hk (by omega)), vG_at hk (by omega), nI_1]
      have f2 : F_Mod_freeHandle_2 (n + 1) (nI k) ρ = if 0 ≤ ρ 3 0 (8 * p + k) then F_Mod_freeHandle_2 n (nI (k + 1)) ρ else some (nI k, ρ) := by
        show (if (8 : Int32) ≤ nI k then _ else _) = _
        rw [if_neg (by rw [show (8 : Int32) = nI 8 from rfl]; exact nI_ge hk (by omega)), hr, vG_at ht (by omega), hh, ix8, vG_at (by omega) (by omega), nI_1]
      rw [f1, f2, ← e1]
      by_cases q : σ 41 p k = -1
      · rw [if_pos q, if_neg (fun z => (oi_nn e3 (by omega)).mp z q)]
        exact ⟨nI k, rfl, rfl, Or.inr ⟨k, hk, rfl, q⟩⟩
      · rw [if_neg q, if_pos ((oi_nn e3 (by omega)).mpr q)]
        exact ih (k + 1) (by omega) (by omega)
    · have hk8 : k = 8 := by omega
      subst hk8
      exact ⟨-1, rfl, rfl, Or.inl rfl⟩
/-- the least of a search by keys: what a scan over t < T with 'best so far' gives -/
def mn_ (T : Nat) (c : Nat → Prop) (key : Nat → Int32) (x : Int32) : Prop := (x = -1 ∧ ∀ t, t < T → ¬ c t) ∨ ∃ b, b < T ∧ x = nI b ∧ c b ∧ ∀ t, t < T → c t → key b ≤ key t
theorem le_of_nlt {a b : Int32} (h : ¬ a < b) : b ≤ a := by
  rw [Int32.le_iff_toInt_le]
  rw [Int32.lt_iff_toInt_lt] at h
  omega
theorem nlt_of_le {a b : Int32} (h : b ≤ a) : ¬ a < b := by
  rw [Int32.le_iff_toInt_le] at h
  rw [Int32.lt_iff_toInt_lt]
  omega
theorem le_tr {a b d : Int32} (h : a ≤ b) (h2 : b ≤ d) : a ≤ d := by
  rw [Int32.le_iff_toInt_le] at *
  omega
theorem le_of_lt {a b : Int32} (h : a < b) : a ≤ b := by
  rw [Int32.lt_iff_toInt_lt] at h
  rw [Int32.le_iff_toInt_le]
  omega
theorem le_rf (a : Int32) : a ≤ a := by rw [Int32.le_iff_toInt_le]; omega
theorem lt_of_nle {a b : Int32} (h : ¬ a ≤ b) : b < a := by
  rw [Int32.le_iff_toInt_le] at h
  rw [Int32.lt_iff_toInt_lt]
  omega
theorem mn_step {T k : Nat} {c : Nat → Prop} {key : Nat → Int32} {x : Int32} (h : mn_ k c key x) (hc : ¬ c k) : mn_ (k + 1) c key x := by
  rcases h with ⟨h1, h2⟩ | ⟨b, h1, h2, h3, h4⟩
  · exact Or.inl ⟨h1, fun t ht q => by
      rcases Nat.lt_or_ge t k with z | z
      · exact h2 t z q
      · have : t = k := by omega
        subst this
        exact hc q⟩
  · exact Or.inr ⟨b, by omega, h2, h3, fun t ht q => by
      rcases Nat.lt_or_ge t k with z | z
      · exact h4 t z q
      · have : t = k := by omega
        subst this
        exact absurd q hc⟩
theorem mn_keep {k b : Nat} {c : Nat → Prop} {key : Nat → Int32} (h : mn_ k c key (nI b)) (hb : b < k) (hk : k < 2 ^ 31) (hle : key b ≤ key k) : mn_ (k + 1) c key (nI b) := by
  rcases h with ⟨h1, h2⟩ | ⟨b', h1, h2, h3, h4⟩
  · exact absurd h1 (nI_m1 (by omega))
  · have e : b = b' := (nI_eq (by omega) (by omega)).mp h2
    subst e
    exact Or.inr ⟨b, by omega, rfl, h3, fun t ht q => by
      rcases Nat.lt_or_ge t k with z | z
      · exact h4 t z q
      · have : t = k := by omega
        subst this
        exact hle⟩
theorem mn_new {k : Nat} {c : Nat → Prop} {key : Nat → Int32} {x : Int32} (h : mn_ k c key x) (hc : c k) (hlt : ∀ b, b < k → x = nI b → key k ≤ key b) : mn_ (k + 1) c key (nI k) := by
  refine Or.inr ⟨k, by omega, rfl, hc, fun t ht q => ?_⟩
  rcases Nat.lt_or_ge t k with z | z
  · rcases h with ⟨h1, h2⟩ | ⟨b, h1, h2, h3, h4⟩
    · exact absurd q (h2 t z)
    · exact le_tr (hlt b h1 h2) (h4 t z q)
  · have : t = k := by omega
    subst this
    exact le_rf _
theorem mn_neg {k : Nat} {c : Nat → Prop} {key : Nat → Int32} {x : Int32} (h : mn_ k c key x) (hk : k < 2 ^ 31) : oi_ x k := by
  rcases h with ⟨h1, h2⟩ | ⟨b, h1, h2, h3, h4⟩
  · exact Or.inl h1
  · exact Or.inr ⟨b, h1, h2⟩
/-- the reference's waiter: the least 'began' behind 'after' among those that wait -/
theorem m_waiter_4 {ρ : ed_S} {T : Nat} (hT : T ≤ 8) (hr : ρ 43 0 0 = nI T) (a : Int32) : ∀ (n k : Nat) (x : Int32), T < n + k → k ≤ T → mn_ k (fun t => ρ 7 0 t = 2 ∧ a < ρ 15 0 t) (fun t => ρ 15 0 t) x → ∃ y, F_Mod_waiter_4 n a x (nI k) ρ = some (y, ρ) ∧ mn_ T (fun t => ρ 7 0 t = 2 ∧ a < ρ 15 0 t) (fun t => ρ 15 0 t) y := by
  intro n
  induction n with
  | zero => intro k x h1 h2; omega
  | succ n ih =>
    intro k x h1 h2 hm
    rcases Nat.lt_or_ge k T with hk | hk
    · have e : F_Mod_waiter_4 (n + 1) a x (nI k) ρ = if ρ 7 0 k = 2 then (if ρ 15 0 k ≤ a then F_Mod_waiter_4 n a x (nI (k + 1)) ρ else if x < 0 then F_Mod_waiter_4 n a (nI k) (nI (k + 1)) ρ else (vG (nI k) 8 fun j13 => (vG x 8 fun j17 => (if (ρ 15 0 j17) ≤ (ρ 15 0 j13) then ((F_Mod_waiter_4 n) a x (nI (k + 1)) ρ) else ((F_Mod_waiter_4 n) a (nI k) (nI (k + 1)) ρ))))) else F_Mod_waiter_4 n a x (nI (k + 1)) ρ := by
        show (if (ρ 43 0 0) ≤ nI k then _ else _) = _
        rw [hr, if_neg (nI_ge hk (by omega)), vG_at (by omega) (by omega), vG_at (by omega) (by omega), nI_1]
      rw [e]
      by_cases c1 : ρ 7 0 k = 2
      · rw [if_pos c1]
        by_cases c2 : ρ 15 0 k ≤ a
        · rw [if_pos c2]
          exact ih (k + 1) x (by omega) (by omega) (mn_step (T := T) hm (fun q => nlt_of_le c2 q.2))
        · rw [if_neg c2]
          have hck : ρ 7 0 k = 2 ∧ a < ρ 15 0 k := ⟨c1, lt_of_nle c2⟩
          have hoi := mn_neg hm (by omega)
          by_cases c3 : x < 0
          · rw [if_pos c3]
            refine ih (k + 1) (nI k) (by omega) (by omega) (mn_new hm hck (fun b hb hx => ?_))
            rw [hx] at c3
            exact absurd c3 (nI_pos (by omega))
          · rw [if_neg c3]
            rcases hoi with h | ⟨b, hb, h⟩
            · rw [h] at c3
              exact absurd (by decide) c3
            · subst h
              rw [vG_at (by omega) (by omega), vG_at (by omega) (by omega)]
              by_cases c4 : ρ 15 0 b ≤ ρ 15 0 k
              · rw [if_pos c4]
                exact ih (k + 1) (nI b) (by omega) (by omega) (mn_keep hm hb (by omega) c4)
              · rw [if_neg c4]
                refine ih (k + 1) (nI k) (by omega) (by omega) (mn_new hm hck (fun b' hb' hx => ?_))
                have e2 : b = b' := (nI_eq (by omega) (by omega)).mp hx
                subst e2
                exact le_of_lt (lt_of_nle c4)
      · rw [if_neg c1]
        exact ih (k + 1) x (by omega) (by omega) (mn_step (T := T) hm (fun q => c1 q.1))
    · have hkT : k = T := by omega
      subst hkT
      refine ⟨x, ?_, hm⟩
      show (if (ρ 43 0 0) ≤ nI k then _ else _) = _
      rw [hr, if_pos (nI_le (Nat.le_refl _) (by omega))]
theorem m_waiter {ρ : ed_S} {T : Nat} (hT : T ≤ 8) (hr : ρ 43 0 0 = nI T) (a : Int32) : ∃ y, F_Mod_waiter a ρ = some (y, ρ) ∧ mn_ T (fun t => ρ 7 0 t = 2 ∧ a < ρ 15 0 t) (fun t => ρ 15 0 t) y :=
  m_waiter_4 hT hr a ed_fu 0 (-1) (by show _ < 64 + 0; omega) (Nat.zero_le _) (Or.inl ⟨rfl, fun t ht => by omega⟩)
