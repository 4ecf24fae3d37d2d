/-! ===== the pure part: the calls that only ask ===== -/
/-- both answer alike, and Z holds behind -/
def jt_ (Z : ed_S → ed_S → Prop) (A B : Option (Int32 × ed_S)) : Prop := ∃ (r : Int32) (σ2 ρ2 : ed_S), A = some (r, σ2) ∧ B = some (r, ρ2) ∧ Z σ2 ρ2
theorem jt_b {Z : ed_S → ed_S → Prop} {σ ρ : ed_S} {r s : Int32} (h : r = s) (z : Z σ ρ) : jt_ Z (some (r, σ)) (some (s, ρ)) := ⟨r, σ, ρ, rfl, by rw [h], z⟩
theorem jt_if {Z : ed_S → ed_S → Prop} {c d : Prop} [Decidable c] [Decidable d] {A B A' B' : Option (Int32 × ed_S)} (h : c ↔ d) (h1 : c → jt_ Z A A') (h2 : ¬ c → jt_ Z B B') : jt_ Z (if c then A else B) (if d then A' else B') := by
  by_cases q : c
  · rw [if_pos q, if_pos (h.mp q)]; exact h1 q
  · rw [if_neg q, if_neg (fun z => q (h.mpr z))]; exact h2 q
theorem jt_mo {Z Y : ed_S → ed_S → Prop} {A B : Option (Int32 × ed_S)} (h : jt_ Z A B) (z : ∀ σ ρ, Z σ ρ → Y σ ρ) : jt_ Y A B := by
  obtain ⟨r, σ2, ρ2, h1, h2, h3⟩ := h
  exact ⟨r, σ2, ρ2, h1, h2, z _ _ h3⟩
theorem iw_c {x b : Int32} {n : Nat} (hb : b.toInt = (n : Int) - 1) (hn : n < 2 ^ 31) : iw_ x 0 b = 0 ∨ ∃ j, j < n ∧ x = nI j ∧ ¬ iw_ x 0 b = 0 := by
  by_cases c : iw_ x 0 b = 0
  · exact Or.inl c
  · obtain ⟨j, h1, h2⟩ := iw_nI hb hn c
    exact Or.inr ⟨j, h1, h2, c⟩
theorem pred_i {T : Nat} (h : T ≤ 8) : (nI T - 1).toInt = (T : Int) - 1 := by
  have : (nI T).toInt = T := nI_toInt (by omega)
  rw [sub1 (by omega), this]
theorem row_fst {σ : ed_S} {r : Nat} {l : List Nat} (h : rw_ σ r l) : F_Row_first r σ = some (hi_ l, σ) := (row_first h).trans (by cases l <;> rfl)
theorem c_actor (n : Nat) (x1 x2 : Int32) (σ ρ : ed_S) (hn : n < 512) (hS : zS n σ ρ) : jt_ (zS (n + 1)) (F_Desk_actor x1 x2 σ) (F_Mod_actor x1 x2 ρ) := by
  have hS' := hS.mo
  obtain ⟨T, P, q, ⟨⟨nQ, nA, nT, nU, nR, nC, nW, nD, nX, nV, nI', nP, nH, nO⟩, -⟩, -, -, -⟩ := hS
  obtain ⟨a1, a2, a3, a4, a5, a6, a7, a8, a9, a10, a11, a12, a13⟩ := nA
  unfold F_Desk_actor F_Mod_actor
  rw [vB2_at (d_is _ _ _ _), vB2_at (m_is _ _ _ _), a5, a6]
  rcases iw_c (x := x1) (pred_i a2) (by omega) with h | ⟨t, ht, rfl, h⟩
  · rw [if_pos h, if_pos h]
    exact jt_b rfl hS'
  · rw [if_neg h, if_neg h]
    simp only [vG_at (show t < 8 by omega) (show 8 < 2 ^ 31 by omega)]
    obtain ⟨b1, b2, b3, b4, b5, b6, b7, b8, b9⟩ := nT t ht
    refine jt_if Iff.rfl (fun _ => jt_b b3 hS') (fun _ => ?_)
    refine jt_if Iff.rfl (fun _ => jt_b b1 hS') (fun _ => ?_)
    refine jt_if Iff.rfl (fun _ => jt_b b2 hS') (fun _ => ?_)
    refine jt_if Iff.rfl (fun _ => jt_b b4 hS') (fun _ => ?_)
    refine jt_if Iff.rfl (fun _ => jt_b ((nQ t (by omega)).1.trans (nC t ht).1.symm) hS') (fun _ => ?_)
    refine jt_if Iff.rfl (fun _ => jt_b b5 hS') (fun _ => ?_)
    refine jt_if Iff.rfl (fun _ => jt_b b6 hS') (fun _ => ?_)
    refine jt_if Iff.rfl (fun _ => jt_b b7 hS') (fun _ => ?_)
    refine jt_if Iff.rfl (fun _ => ?_) (fun _ => jt_b rfl hS')
    by_cases c : ρ 7 0 t = 2
    · obtain ⟨v1, v2, v3, v3', v4, v5, v6⟩ := nW.2.2.1 t ht c
      rw [b3, if_pos c, v3, a8]
      rcases v3' with w | w
      · rw [w, if_pos rfl, if_neg (by decide)]
        exact jt_b rfl hS'
      · rw [if_neg (fun z => by rw [z] at w; exact absurd w (by decide)), if_pos w]
        exact jt_b rfl hS'
    · rw [b3, if_neg c, nW.2.2.2 t ht c, if_neg (by decide)]
      exact jt_b rfl hS'
theorem len_cn : ∀ (n : Nat) (c : Nat → Bool) (l : List Nat), l.Nodup → (∀ i, i ∈ l ↔ i < n ∧ c i = true) → l.length = cn_ n c := by
  intro n
  induction n with
  | zero =>
    intro c l _ h
    cases l with
    | nil => rfl
    | cons a l => exact absurd ((h a).mp List.mem_cons_self).1 (by omega)
  | succ n ih =>
    intro c l hn h
    rw [cn_s]
    by_cases q : c n = true
    · have hm : n ∈ l := (h n).mpr ⟨by omega, q⟩
      have h1 := ih c (l.erase n) (hn.erase n) (fun i => by
        rw [List.Nodup.mem_erase_iff hn, h i]
        constructor
        · intro z; exact ⟨by omega, z.2.2⟩
        · intro z; exact ⟨by omega, by omega, z.2⟩)
      rw [List.length_erase_of_mem hm] at h1
      have := List.length_pos_of_mem hm
      rw [if_pos q]
      omega
    · rw [if_neg q]
      exact ih c l hn (fun i => by
        rw [h i]
        constructor
        · intro z
          refine ⟨?_, z.2⟩
          rcases Nat.lt_or_ge i n with w | w
          · exact w
          · have : i = n := by omega
            subst this
            exact absurd z.2 q
        · intro z; exact ⟨by omega, z.2⟩)
theorem m_rowOf_4 {ρ : ed_S} (o : Int32) : ∀ (n k : Nat), 8 < n + k → k ≤ 8 → F_Mod_rowOf_4 n o (nI (cn_ k (pd_ ρ o))) (nI k) ρ = some (nI (cn_ 8 (pd_ ρ o)), ρ) := by
  intro n
  induction n with
  | zero => intro k h1 h2; omega
  | succ n ih =>
    intro k h1 h2
    rcases Nat.lt_or_ge k 8 with hk | hk
    · have e : F_Mod_rowOf_4 (n + 1) o (nI (cn_ k (pd_ ρ o))) (nI k) ρ = F_Mod_rowOf_4 n o (nI (cn_ (k + 1) (pd_ ρ o))) (nI (k + 1)) ρ := by
        show (if (8 : Int32) ≤ nI k then _ else _) = _
        rw [if_neg (by rw [show (8 : Int32) = nI 8 from rfl]; exact nI_ge hk (by omega)), vG_at (by omega) (by omega), vG_at (by omega) (by omega), nI_1, nI_1, cn_s]
        by_cases q1 : ρ 31 0 k = 0
        · by_cases q2 : ρ 34 0 k = o
          · rw [if_pos q1, if_pos q2, if_pos (by simp [pd_, q1, q2])]
          · rw [if_pos q1, if_neg q2, if_neg (by simp [pd_, q2])]
            rfl
        · rw [if_neg q1, if_neg (by simp [pd_, q1])]
          rfl
      rw [e]
      exact ih (k + 1) (by omega) (by omega)
    · have hk8 : k = 8 := by omega
      subst hk8
      rfl
theorem m_rowOf (ρ : ed_S) (o : Int32) : F_Mod_rowOf o ρ = some (nI (cn_ 8 (pd_ ρ o)), ρ) := m_rowOf_4 o ed_fu 0 (by show _ < 64 + 0; omega) (Nat.zero_le _)
theorem hc_lt (ρ : ed_S) (o : Int32) : hc_ ρ o ≤ 32 := cn_le _ _
theorem pc_lt {ρ : ed_S} {T K : Nat} (hT : T ≤ 8) (hK : K ≤ 8) (o : Int32) : pc_ ρ T K o ≤ 48 := by
  unfold pc_
  have a1 := cn_le (3 * T) (pw_ ρ o)
  have a2 := cn_le 8 (pd_ ρ o)
  have a3 := cn_le 8 (ps_ ρ o)
  have a4 := cn_le K (pi_ ρ o)
  omega
theorem gM.K {σ ρ : ed_S} {T P : Nat} {q : Nat → List Nat} (m : gM σ ρ T P q) : (q 33).length ≤ 8 := Nat.le_trans (m.1 33 (by omega)).2.1 (ed_cap8 33)
theorem d_there {σ ρ : ed_S} {T P o : Nat} {q : Nat → List Nat} (m : gM σ ρ T P q) (ho : o < 16) : (th_ ρ T q o ∧ F_Obj_isThere o σ = some (1, σ)) ∨ (¬ th_ ρ T q o ∧ F_Obj_isThere o σ = some (0, σ)) := by
  have hK := m.K
  obtain ⟨h1, h2⟩ := m.2.2.2.2.2.2.2.2.2.2.2.2.1 o ho
  have hT := m.2.1.2.1
  have b1 := hc_lt ρ (nI o)
  have b2 := pc_lt (ρ := ρ) hT hK (nI o)
  unfold F_Obj_isThere
  rw [h1, h2]
  by_cases c1 : hc_ ρ (nI o) = 0
  · rw [c1, if_neg (by decide)]
    by_cases c2 : pc_ ρ T (q 33).length (nI o) = 0
    · rw [c2, if_pos (by decide)]
      exact Or.inr ⟨fun z => z ⟨c1, c2⟩, rfl⟩
    · rw [if_neg (nI_nle (by omega) (by omega))]
      exact Or.inl ⟨fun z => c2 z.2, rfl⟩
  · rw [if_pos (lt_of_nle (nI_nle (by omega) (by omega)))]
    exact Or.inl ⟨fun z => c1 z.1, rfl⟩
theorem c_object (n : Nat) (x1 x2 : Int32) (σ ρ : ed_S) (hn : n < 512) (hS : zS n σ ρ) : jt_ (zS (n + 1)) (F_Desk_object x1 x2 σ) (F_Mod_object x1 x2 ρ) := by
  have hS' := hS.mo
  obtain ⟨T, P, q, ⟨m, -⟩, -, ti, -⟩ := hS
  have hK := m.K
  have m' := m
  obtain ⟨nQ, nA, nT, nU, nR, nC, nW, nD, nX, nV, nI', nP, nH, nO⟩ := m
  obtain ⟨a1, a2, a3, a4, a5, a6, a7, a8, a9, a10, a11, a12, a13⟩ := nA
  unfold F_Desk_object F_Mod_object F_Desk_isThere
  rw [vB2_at (d_is _ _ _ _), vB2_at (m_is _ _ _ _)]
  rcases iw_c (x := x1) (b := 15) (n := 16) (by decide) (by omega) with h | ⟨o, ho, rfl, h⟩
  · rw [if_pos h, if_pos h]
    exact jt_b rfl hS'
  · rw [if_neg h, if_neg h]
    simp only [vG_at ho (show 16 < 2 ^ 31 by omega)]
    rcases d_there m' ho with ⟨c1, c2⟩ | ⟨c1, c2⟩
    · have h19 := ((ti o ho).1).mpr c1
      rw [vB2_at c2]
      simp only [if_neg (show ¬ (1 : Int32) = 0 by decide)]
      rw [vB2_at (show some ((1 : Int32), σ) = some (1, σ) from rfl), if_neg (by decide), if_neg (show ¬ ρ 19 0 o = 0 by rw [h19]; decide), vB2_at (m_is _ _ _ _)]
      obtain ⟨x, y⟩ := nO.2 o ho c1
      obtain ⟨y1, y2, y3, y4, y5, y6, y7, y8, y9, y10, y11, y12, y13, y14, y15⟩ := x
      obtain ⟨g1, g2⟩ := nH o ho
      rcases iw_c (x := x2) (b := 7) (n := 8) (by decide) (by omega) with h | ⟨w, hw, rfl, h⟩
      · rw [if_pos h]
        have hne : ∀ k, k < 8 → ¬ x2 = nI k := fun k hk z => by
          rw [z, iw_in (n := 8) (by decide) (by omega) hk] at h
          exact absurd h (by decide)
        rw [if_neg (show ¬ x2 = 0 from hne 0 (by omega)), if_neg (show ¬ x2 = 1 from hne 1 (by omega)), if_neg (show ¬ x2 = 2 from hne 2 (by omega)), if_neg (show ¬ x2 = 3 from hne 3 (by omega)), if_neg (show ¬ x2 = 4 from hne 4 (by omega)), if_neg (show ¬ x2 = 5 from hne 5 (by omega)), if_neg (show ¬ x2 = 6 from hne 6 (by omega)), if_neg (show ¬ x2 = 7 from hne 7 (by omega))]
        exact jt_b rfl hS'
      · rw [if_neg h]
        refine jt_if Iff.rfl (fun _ => jt_b y2 hS') (fun n0 => ?_)
        refine jt_if Iff.rfl (fun _ => ?_) (fun n1 => ?_)
        · unfold F_Obj_currentName
          rw [g1]
          have hb := hc_lt ρ (nI o)
          by_cases c : hc_ ρ (nI o) = 0
          · rw [c, if_pos (by decide), (ti o ho).2 c1 c]
            exact jt_b rfl hS'
          · rw [if_neg (nI_nle (by omega) (by omega)), y c]
            exact jt_b rfl hS'
        refine jt_if Iff.rfl (fun _ => ?_) (fun n2 => ?_)
        · rw [m_handles]
          exact jt_b g1 hS'
        refine jt_if Iff.rfl (fun _ => ?_) (fun n3 => ?_)
        · rw [m_pointers a2 hK a6 nI'.1]
          exact jt_b g2 hS'
        refine jt_if Iff.rfl (fun _ => ?_) (fun n4 => ?_)
        · refine jt_if (by rw [y2]) (fun _ => ?_) (fun z5 => ?_)
          · rw [m_rowOf]
            refine jt_b ?_ hS'
            rw [(nQ (16 + o) (by omega)).1, len_cn 8 (pd_ ρ (nI o)) (q (16 + o)) (pw_nd (nV o ho).1) (fun i => by rw [(nV o ho).2 i]; simp [pd_])]
          · rcases ty_ y3 with e | e | e | e | e | e
            · rw [e, if_neg (by decide), if_neg (by decide), y11 (Or.inl e)]
              rcases y9 with w | w
              · rw [w]; exact jt_b rfl hS'
              · rw [w]; exact jt_b rfl hS'
            · rw [e, if_neg (by decide), if_neg (by decide), y11 (Or.inr (Or.inl e))]
              rcases y9 with w | w
              · rw [w]; exact jt_b rfl hS'
              · rw [w]; exact jt_b rfl hS'
            · rw [e, if_pos rfl]
              exact jt_b (y10 (Or.inl e)).1 hS'
            · rw [e, if_neg (by decide), if_pos rfl]
              exact jt_b (y10 (Or.inr (Or.inl e))).1 hS'
            · rw [e, if_neg (by decide), if_neg (by decide), y11 (Or.inr (Or.inr e))]
              rcases y9 with w | w
              · rw [w]; exact jt_b rfl hS'
              · rw [w]; exact jt_b rfl hS'
            · exact absurd (y2.trans e) z5
        refine jt_if Iff.rfl (fun _ => ?_) (fun n5 => ?_)
        · unfold F_Desk_detailOf
          rw [y2]
          rcases ty_ y3 with e | e | e | e | e | e
          · rw [e]; exact jt_b rfl hS'
          · rw [e]; exact jt_b rfl hS'
          · rw [e]; exact jt_b y4 hS'
          · rw [e]; exact jt_b rfl hS'
          · rw [e, if_neg (show ¬ (4 : Int32) = 2 by decide), if_neg (show ¬ (4 : Int32) = 3 by decide), if_pos (show (4 : Int32) = 4 from rfl), if_neg (show ¬ (4 : Int32) = 2 by decide), if_pos (show (4 : Int32) = 4 from rfl)]
            rcases y12 e with ⟨w1, w2⟩ | ⟨w1, w2⟩
            · rw [w1, w2, if_pos rfl, if_pos rfl]
              exact jt_b rfl hS'
            · rw [w1, a8, if_neg (fun z => by rw [z] at w2; exact absurd w2 (by decide)), if_neg (fun z => by rw [z] at w2; exact absurd w2 (by decide))]
              exact jt_b rfl hS'
          · rw [e, if_neg (show ¬ (5 : Int32) = 2 by decide), if_neg (show ¬ (5 : Int32) = 3 by decide), if_neg (show ¬ (5 : Int32) = 4 by decide), if_pos (show (5 : Int32) = 5 from rfl), if_neg (show ¬ (5 : Int32) = 2 by decide), if_neg (show ¬ (5 : Int32) = 4 by decide), if_pos (show (5 : Int32) = 5 from rfl), row_fst (nQ (16 + o) (by omega)), m_firstOf (fun i => (nV o ho).2 i) (nV o ho).1]
            exact jt_b rfl hS'
        refine jt_if Iff.rfl (fun _ => ?_) (fun n6 => ?_)
        · rw [y6]
          refine jt_if Iff.rfl (fun _ => jt_b rfl hS') (fun _ => jt_b rfl hS')
        · have hw7 : w = 7 := by
            have z : ∀ k, k < 8 → ¬ nI w = nI k → w ≠ k := fun k _ h1 h2 => h1 (by rw [h2])
            have := z 0 (by omega) n0
            have := z 1 (by omega) n1
            have := z 2 (by omega) n2
            have := z 3 (by omega) n3
            have := z 4 (by omega) n4
            have := z 5 (by omega) n5
            have := z 6 (by omega) n6
            omega
          subst hw7
          rw [if_pos (by decide)]
          exact jt_b y13 hS'
    · have h19 : ρ 19 0 o = 0 := (nO.1 o ho).resolve_right (fun z => c1 (((ti o ho).1).mp z))
      rw [vB2_at c2, if_pos rfl, vB2_at (show some ((0 : Int32), σ) = some (0, σ) from rfl), if_pos rfl, if_pos h19]
      exact jt_b rfl hS'
theorem c_io (n : Nat) (x1 x2 : Int32) (σ ρ : ed_S) (hn : n < 512) (hS : zS n σ ρ) : jt_ (zS (n + 1)) (F_Desk_io x1 x2 σ) (F_Mod_io x1 x2 ρ) := by
  have hS' := hS.mo
  obtain ⟨T, P, q, ⟨⟨nQ, nA, nT, nU, nR, nC, nW, nD, nX, nV, nI', nP, nH, nO⟩, -⟩, -, -, -⟩ := hS
  unfold F_Desk_io F_Mod_io
  rw [vB2_at (d_is _ _ _ _), vB2_at (m_is _ _ _ _)]
  rcases iw_c (x := x1) (b := 7) (n := 8) (by decide) (by omega) with h | ⟨i, hi, rfl, h⟩
  · rw [if_pos h, if_pos h]
    exact jt_b rfl hS'
  · rw [if_neg h, if_neg h]
    simp only [vG_at hi (show 8 < 2 ^ 31 by omega)]
    obtain ⟨y1, y2, y3, y4, y5, y6, y7, y8, y9, y10, y11, y12⟩ := nX i hi
    rw [y1]
    by_cases c : ρ 31 0 i = -1
    · rw [if_pos c, if_neg (fun z => (oi_nn y9 (by omega)).mp z c)]
      exact jt_b rfl hS'
    · rw [if_neg c, if_pos ((oi_nn y9 (by omega)).mpr c)]
      refine jt_if Iff.rfl (fun _ => jt_b rfl hS') (fun _ => ?_)
      refine jt_if Iff.rfl (fun _ => jt_b y2 hS') (fun _ => ?_)
      refine jt_if Iff.rfl (fun _ => jt_b y3 hS') (fun _ => ?_)
      refine jt_if Iff.rfl (fun _ => jt_b y4 hS') (fun _ => ?_)
      refine jt_if Iff.rfl (fun _ => jt_b y5 hS') (fun _ => ?_)
      refine jt_if Iff.rfl (fun _ => ?_) (fun _ => ?_)
      · rw [y7]
        by_cases c1 : ρ 31 0 i = 0
        · rw [if_pos c1, if_pos c1]
          exact jt_if Iff.rfl (fun _ => jt_b rfl hS') (fun _ => jt_b rfl hS')
        · rw [if_neg c1, if_neg c1]
          by_cases c2 : ρ 38 0 i = 0
          · rw [if_pos c2]; exact jt_b rfl hS'
          · rw [if_neg c2]; exact jt_b rfl hS'
      refine jt_if Iff.rfl (fun _ => ?_) (fun _ => jt_b rfl hS')
      rw [y8]
      exact jt_if Iff.rfl (fun _ => jt_b rfl hS') (fun _ => jt_b rfl hS')
theorem d_objectOf (σ : ed_S) (p : Nat) (x : Int32) : (iw_ x 0 7 = 0 ∧ F_Proc_objectOf p x σ = some (-1, σ) ∧ F_Proc_rightsOf p x σ = some (0, σ)) ∨ ∃ h, h < 8 ∧ x = nI h ∧ ¬ iw_ x 0 7 = 0 ∧ F_Proc_objectOf p x σ = some (σ 41 p h, σ) ∧ F_Proc_rightsOf p x σ = some (σ 42 p h, σ) := by
  unfold F_Proc_objectOf F_Proc_rightsOf
  rw [vB2_at (d_is _ _ _ _)]
  rcases iw_c (x := x) (b := 7) (n := 8) (by decide) (by omega) with h | ⟨j, hj, rfl, h⟩
  · refine Or.inl ⟨h, ?_, ?_⟩
    · rw [if_pos h]
    · rw [vB2_at (d_is _ _ _ _), if_pos h]
  · refine Or.inr ⟨j, hj, rfl, h, ?_, ?_⟩
    · rw [if_neg h, vG_at hj (by omega)]
    · rw [vB2_at (d_is _ _ _ _), if_neg h, vG_at hj (by omega)]
theorem c_handle (n : Nat) (x1 x2 x3 : Int32) (σ ρ : ed_S) (hn : n < 512) (hS : zS n σ ρ) : jt_ (zS (n + 1)) (F_Desk_handle x1 x2 x3 σ) (F_Mod_handle x1 x2 x3 ρ) := by
  have hS' := hS.mo
  obtain ⟨T, P, q, ⟨⟨nQ, nA, nT, nU, nR, nC, nW, nD, nX, nV, nI', nP, nH, nO⟩, -⟩, -, -, -⟩ := hS
  obtain ⟨a1, a2, a3, a4, a5, a6, a7, a8, a9, a10, a11, a12, a13⟩ := nA
  unfold F_Desk_handle F_Mod_handle
  rw [vB2_at (d_is _ _ _ _), vB2_at (m_is _ _ _ _), a3, a4]
  rcases iw_c (x := x1) (pred_i (show P ≤ 8 by omega)) (by omega) with h | ⟨p, hp, rfl, h⟩
  · rw [if_pos h, if_pos h]
    exact jt_b rfl hS'
  · rw [if_neg h, if_neg h, vG_at (show p < 4 by omega) (by omega), vB2_at (m_is _ _ _ _)]
    rcases d_objectOf σ p x2 with ⟨e1, e2, e3⟩ | ⟨k, hk, rfl, e1, e2, e3⟩
    · rw [vB2_at e2, if_pos rfl, if_pos e1]
      exact jt_b rfl hS'
    · obtain ⟨f1, f2, f3⟩ := (nP p (by omega)).2.2.2 k hk
      rw [vB2_at e2, if_neg e1, ix8]
      simp only [vG_at (show p < 4 by omega) (show 4 < 2 ^ 31 by omega), vG_at (show 8 * p + k < 32 by omega) (show 32 < 2 ^ 31 by omega)]
      refine jt_if (by rw [← f1]; exact (oi_neg f3 (by omega)).symm) (fun _ => jt_b rfl hS') (fun _ => ?_)
      rw [vB2_at (m_is _ _ _ _)]
      by_cases c0 : x3 = 0
      · subst c0
        rw [if_pos rfl, if_neg (by decide), if_pos rfl, vB2_at e2]
        exact jt_b f1 hS'
      · by_cases c1 : x3 = 1
        · subst c1
          rw [if_neg (by decide), if_pos rfl, if_neg (by decide), if_neg (by decide), vB2_at e3]
          exact jt_b f2 hS'
        · rw [if_neg c0, if_neg c1]
          rcases iw_c (x := x3) (b := 1) (n := 2) (by decide) (by omega) with h | ⟨w, hw, rfl, h⟩
          · rw [if_pos h]; exact jt_b rfl hS'
          · exfalso
            rcases (show w = 0 ∨ w = 1 by omega) with e | e
            · exact c0 (by rw [e]; rfl)
            · exact c1 (by rw [e]; rfl)
theorem s_cnt {σ ρ : ed_S} {T P : Nat} {q : Nat → List Nat} (m : gM σ ρ T P q) (ti : ti_ ρ T q) (x : Int32) : ∀ (n k : Nat) (c : Int32), 16 < n + k → k ≤ 16 → ∃ r, F_Desk_objectsThere_4 n c (nI k) σ = some (r, σ) ∧ F_Mod_count_79 n x c (nI k) ρ = some (r, ρ) := by
  intro n
  induction n with
  | zero => intro k c h1 h2; omega
  | succ n ih =>
    intro k c h1 h2
    rcases Nat.lt_or_ge k 16 with hk | hk
    · have e1 : F_Desk_objectsThere_4 (n + 1) c (nI k) σ = (vB2 (F_Obj_isThere k σ) fun r8 σ6 => (if r8 = 0 then ((F_Desk_objectsThere_4  n) c (nI (k + 1)) σ6) else ((F_Desk_objectsThere_4  n) (c + 1) (nI (k + 1)) σ6))) := by
        show (if (16 : Int32) ≤ nI k then _ else _) = _
        rw [if_neg (by rw [show (16 : Int32) = nI 16 from rfl]; exact nI_ge hk (by omega)), vG_at (by omega) (by omega), nI_1]
      have e2 : F_Mod_count_79 (n + 1) x c (nI k) ρ = (if (ρ 19 0 k) = 0 then ((F_Mod_count_79  n) x c (nI (k + 1)) ρ) else ((F_Mod_count_79  n) x (c + 1) (nI (k + 1)) ρ)) := by
        show (if (16 : Int32) ≤ nI k then _ else _) = _
        rw [if_neg (by rw [show (16 : Int32) = nI 16 from rfl]; exact nI_ge hk (by omega)), vG_at (by omega) (by omega), nI_1]
      rw [e1, e2]
      rcases d_there m hk with ⟨c1, c2⟩ | ⟨c1, c2⟩
      · rw [vB2_at c2, if_neg (by decide), if_neg (by rw [((ti k hk).1).mpr c1]; decide)]
        exact ih (k + 1) _ (by omega) (by omega)
      · have h19 : ρ 19 0 k = 0 := (m.2.2.2.2.2.2.2.2.2.2.2.2.2.1 k hk).resolve_right (fun z => c1 (((ti k hk).1).mp z))
        rw [vB2_at c2, if_pos rfl, if_pos h19]
        exact ih (k + 1) _ (by omega) (by omega)
    · have hk8 : k = 16 := by omega
      subst hk8
      exact ⟨c, rfl, rfl⟩
theorem c_count (n : Nat) (x1 : Int32) (σ ρ : ed_S) (hn : n < 512) (hS : zS n σ ρ) : jt_ (zS (n + 1)) (F_Desk_count x1 σ) (F_Mod_count x1 ρ) := by
  have hS' := hS.mo
  obtain ⟨T, P, q, ⟨m, -⟩, -, ti, -⟩ := hS
  have m' := m
  obtain ⟨nQ, nA, nT, nU, nR, nC, nW, nD, nX, nV, nI', nP, nH, nO⟩ := m
  obtain ⟨a1, a2, a3, a4, a5, a6, a7, a8, a9, a10, a11, a12, a13⟩ := nA
  unfold F_Desk_count F_Mod_count
  refine jt_if Iff.rfl (fun _ => jt_b a11 hS') (fun _ => ?_)
  refine jt_if Iff.rfl (fun _ => jt_b a8 hS') (fun _ => ?_)
  refine jt_if Iff.rfl (fun _ => jt_b a9 hS') (fun _ => ?_)
  refine jt_if Iff.rfl (fun _ => jt_b (a3.trans a4.symm) hS') (fun _ => ?_)
  refine jt_if Iff.rfl (fun _ => jt_b (a5.trans a6.symm) hS') (fun _ => ?_)
  refine jt_if Iff.rfl (fun _ => ?_) (fun _ => ?_)
  · obtain ⟨r, e1, e2⟩ := s_cnt m' ti x1 ed_fu 0 0 (by show _ < 64 + 0; omega) (Nat.zero_le _)
    have e1' : F_Desk_objectsThere σ = some (r, σ) := e1
    rw [vB2_at e1', show F_Mod_count_79 ed_fu x1 0 0 ρ = some (r, ρ) from e2]
    exact jt_b rfl hS'
  refine jt_if Iff.rfl (fun _ => jt_b ((nQ 33 (by omega)).1.trans nI'.1.symm) hS') (fun _ => ?_)
  refine jt_if Iff.rfl (fun _ => jt_b a13 hS') (fun _ => ?_)
  exact jt_if Iff.rfl (fun _ => jt_b a7 hS') (fun _ => jt_b rfl hS')
