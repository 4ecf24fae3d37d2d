/-! ===== the pure part: pointers, tidy ===== -/
def pw_ (ρ : ed_S) (o : Int32) : Nat → Bool := fun q => decide (ρ 7 0 (q / 3) = 2 ∧ ρ 17 0 q = o)
def pd_ (ρ : ed_S) (o : Int32) : Nat → Bool := fun i => decide (ρ 31 0 i = 0 ∧ ρ 34 0 i = o)
def ps_ (ρ : ed_S) (o : Int32) : Nat → Bool := fun i => decide (ρ 31 0 i = 0 ∧ ρ 36 0 i = o)
def pi_ (ρ : ed_S) (o : Int32) : Nat → Bool := fun k => decide (ρ 40 0 k = o)
/-- how many pointers there are to o: T threads, K interrupts that wait -/
def pc_ (ρ : ed_S) (T K : Nat) (o : Int32) : Nat := cn_ (3 * T) (pw_ ρ o) + (cn_ 8 (pd_ ρ o) + cn_ 8 (ps_ ρ o)) + cn_ K (pi_ ρ o)
theorem cn_s (n : Nat) (c : Nat → Bool) : cn_ (n + 1) c = cn_ n c + (if c n then 1 else 0) := rfl
theorem m_pt_15 {ρ : ed_S} {o : Int32} {t : Nat} (ht : t < 8) (K4 : Int32 → Int32 → Int32 → ed_S → Option (Int32 × ed_S)) : ∀ (n k : Nat), 3 < n + k → k ≤ 3 → F_Mod_pointers_15 K4 n o (nI (cn_ (3 * t + k) (pw_ ρ o))) (nI t) (nI k) ρ = K4 o (nI (cn_ (3 * (t + 1)) (pw_ ρ o))) (nI (t + 1)) ρ := by
  intro n
  induction n with
  | zero => intro k h1 h2; omega
  | succ n ih =>
    intro k h1 h2
    rcases Nat.lt_or_ge k 3 with hk | hk
    · have e : F_Mod_pointers_15 K4 (n + 1) o (nI (cn_ (3 * t + k) (pw_ ρ o))) (nI t) (nI k) ρ = F_Mod_pointers_15 K4 n o (nI (cn_ (3 * t + (k + 1)) (pw_ ρ o))) (nI t) (nI (k + 1)) ρ := by
        show (if (3 : Int32) ≤ nI k then _ else _) = _
        rw [if_neg (by rw [show (3 : Int32) = nI 3 from rfl]; exact nI_ge hk (by omega)), vG_at (by omega) (by omega), ix3, vG_at (by omega) (by omega), nI_1, nI_1, show 3 * t + (k + 1) = (3 * t + k) + 1 by omega, cn_s]
        have hd : (3 * t + k) / 3 = t := by omega
        by_cases q1 : ρ 7 0 t = 2
        · rw [if_pos q1]
          by_cases q2 : ρ 17 0 (3 * t + k) = o
          · rw [if_pos q2, if_pos (by simp [pw_, hd, q1, q2])]
          · rw [if_neg q2, if_neg (by simp [pw_, q2])]
            rfl
        · rw [if_neg q1, if_neg (by simp [pw_, hd, q1])]
          rfl
      rw [e]
      exact ih (k + 1) (by omega) (by omega)
    · have hk3 : k = 3 := by omega
      subst hk3
      show K4 o _ (nI t + 1) ρ = _
      rw [nI_1, show 3 * t + 3 = 3 * (t + 1) by omega]
theorem m_pt_120 {ρ : ed_S} {o : Int32} {K a : Nat} (hK : K ≤ 8) (hr : ρ 48 0 0 = nI K) : ∀ (n k : Nat), K < n + k → k ≤ K → F_Mod_pointers_120 n o (nI (a + cn_ k (pi_ ρ o))) (nI k) ρ = some (nI (a + cn_ K (pi_ ρ o)), ρ) := by
  intro n
  induction n with
  | zero => intro k h1 h2; omega
  | succ n ih =>
    intro k h1 h2
    rcases Nat.lt_or_ge k K with hk | hk
    · have e : F_Mod_pointers_120 (n + 1) o (nI (a + cn_ k (pi_ ρ o))) (nI k) ρ = F_Mod_pointers_120 n o (nI (a + cn_ (k + 1) (pi_ ρ o))) (nI (k + 1)) ρ := by
        show (if (ρ 48 0 0) ≤ nI k then _ else _) = _
        rw [hr, if_neg (nI_ge hk (by omega)), vG_at (by omega) (by omega), nI_1, nI_1, cn_s]
        by_cases q : ρ 40 0 k = o
        · rw [if_pos q, if_pos (by simp [pi_, q]), Nat.add_assoc]
        · rw [if_neg q, if_neg (by simp [pi_, q])]
          rfl
      rw [e]
      exact ih (k + 1) (by omega) (by omega)
    · have hkK : k = K := by omega
      subst hkK
      show (if (ρ 48 0 0) ≤ nI k then _ else _) = _
      rw [hr, if_pos (nI_le (Nat.le_refl _) (by omega))]
theorem m_pt_63 {ρ : ed_S} {o : Int32} {K a : Nat} (hK : K ≤ 8) (hr : ρ 48 0 0 = nI K) : ∀ (n k : Nat), 8 < n + k → k ≤ 8 → F_Mod_pointers_63 n o (nI (a + (cn_ k (pd_ ρ o) + cn_ k (ps_ ρ o)))) (nI k) ρ = some (nI (a + (cn_ 8 (pd_ ρ o) + cn_ 8 (ps_ ρ o)) + cn_ K (pi_ ρ o)), ρ) := by
  intro n
  induction n with
  | zero => intro k h1 h2; omega
  | succ n ih =>
    intro k h1 h2
    rcases Nat.lt_or_ge k 8 with hk | hk
    · have e : F_Mod_pointers_63 (n + 1) o (nI (a + (cn_ k (pd_ ρ o) + cn_ k (ps_ ρ o)))) (nI k) ρ = F_Mod_pointers_63 n o (nI (a + (cn_ (k + 1) (pd_ ρ o) + cn_ (k + 1) (ps_ ρ o)))) (nI (k + 1)) ρ := by
        show (if (8 : Int32) ≤ nI k then _ else _) = _
        rw [if_neg (by rw [show (8 : Int32) = nI 8 from rfl]; exact nI_ge hk (by omega)), vG_at (by omega) (by omega), vG_at (by omega) (by omega), nI_1, cn_s, cn_s]
        unfold F_Mod_pointers_94
        simp only [vG_at hk (show 8 < 2 ^ 31 by omega), nI_1]
        by_cases q1 : ρ 31 0 k = 0
        · by_cases q2 : ρ 34 0 k = o
          · by_cases q3 : ρ 36 0 k = o
            · rw [if_pos q1, if_pos q2, if_pos q3, if_pos (by simp [pd_, q1, q2]), if_pos (by simp [ps_, q1, q3]), show (1 + 1 : Int32) = nI 2 from rfl, nI_add]
              congr 2
              omega
            · rw [if_pos q1, if_pos q2, if_neg q3, if_pos (by simp [pd_, q1, q2]), if_neg (by simp [ps_, q3]), show (1 + 0 : Int32) = nI 1 from rfl, nI_add]
              congr 2
              omega
          · by_cases q3 : ρ 36 0 k = o
            · rw [if_pos q1, if_neg q2, if_pos q3, if_neg (by simp [pd_, q2]), if_pos (by simp [ps_, q1, q3]), show (0 + 1 : Int32) = nI 1 from rfl, nI_add]
              congr 2
            · rw [if_pos q1, if_neg q2, if_neg q3, if_neg (by simp [pd_, q2]), if_neg (by simp [ps_, q3]), show (0 + 0 : Int32) = nI 0 from rfl, nI_add]
              congr 2
        · rw [if_neg q1, if_neg (by simp [pd_, q1]), if_neg (by simp [ps_, q1])]
          rfl
      rw [e]
      exact ih (k + 1) (by omega) (by omega)
    · have hk8 : k = 8 := by omega
      subst hk8
      show F_Mod_pointers_120 ed_fu o _ 0 ρ = _
      exact m_pt_120 hK hr ed_fu 0 (by show _ < 64 + 0; omega) (Nat.zero_le _)
theorem m_pt_4 {ρ : ed_S} {o : Int32} {T K : Nat} (hT : T ≤ 8) (hK : K ≤ 8) (hrT : ρ 43 0 0 = nI T) (hr : ρ 48 0 0 = nI K) : ∀ (n t : Nat), T < n + t → t ≤ T → F_Mod_pointers_4 n o (nI (cn_ (3 * t) (pw_ ρ o))) (nI t) ρ = some (nI (pc_ ρ T K o), ρ) := by
  intro n
  induction n with
  | zero => intro k h1 h2; omega
  | succ n ih =>
    intro t h1 h2
    rcases Nat.lt_or_ge t T with hk | hk
    · show (if (ρ 43 0 0) ≤ nI t then _ else _) = _
      rw [hrT, if_neg (nI_ge hk (by omega))]
      have e := m_pt_15 (ρ := ρ) (o := o) (t := t) (by omega) (F_Mod_pointers_4 n) ed_fu 0 (by show _ < 64 + 0; omega) (Nat.zero_le _)
      refine Eq.trans e ?_
      exact ih (t + 1) (by omega) (by omega)
    · have hkT : t = T := by omega
      subst hkT
      show (if (ρ 43 0 0) ≤ nI t then _ else _) = _
      rw [hrT, if_pos (nI_le (Nat.le_refl _) (by omega))]
      exact m_pt_63 (a := cn_ (3 * t) (pw_ ρ o)) hK hr ed_fu 0 (by show _ < 64 + 0; omega) (Nat.zero_le _)
theorem m_pointers {ρ : ed_S} {T K : Nat} (hT : T ≤ 8) (hK : K ≤ 8) (hrT : ρ 43 0 0 = nI T) (hr : ρ 48 0 0 = nI K) (o : Int32) : F_Mod_pointers o ρ = some (nI (pc_ ρ T K o), ρ) :=
  m_pt_4 hT hK hrT hr ed_fu 0 (by show _ < 64 + 0; omega) (Nat.zero_le _)
/-- the state behind tidy, the objects below k done -/
def td_ (ρ : ed_S) (T K k : Nat) : ed_S := fun a b d => if a = 23 ∧ b = 0 ∧ d < k ∧ ¬ ρ 19 0 d = 0 ∧ hc_ ρ (nI d) = 0 then -1 else if a = 19 ∧ b = 0 ∧ d < k ∧ ¬ ρ 19 0 d = 0 ∧ hc_ ρ (nI d) = 0 ∧ pc_ ρ T K (nI d) = 0 then 0 else ρ a b d
theorem td_n {ρ : ed_S} {T K k a b d : Nat} (h1 : a ≠ 23) (h2 : a ≠ 19) : td_ ρ T K k a b d = ρ a b d := by
  unfold td_
  rw [if_neg (by omega), if_neg (by omega)]
theorem hc_eq {ρ ρ' : ed_S} (h : ∀ d, ρ' 3 0 d = ρ 3 0 d) (o : Int32) : hc_ ρ' o = hc_ ρ o := by
  unfold hc_
  exact cn_congr (fun j _ => by simp only [h])
theorem pc_eq {ρ ρ' : ed_S} {T K : Nat} (h7 : ∀ d, ρ' 7 0 d = ρ 7 0 d) (h17 : ∀ d, ρ' 17 0 d = ρ 17 0 d) (h31 : ∀ d, ρ' 31 0 d = ρ 31 0 d) (h34 : ∀ d, ρ' 34 0 d = ρ 34 0 d) (h36 : ∀ d, ρ' 36 0 d = ρ 36 0 d) (h40 : ∀ d, ρ' 40 0 d = ρ 40 0 d) (o : Int32) : pc_ ρ' T K o = pc_ ρ T K o := by
  unfold pc_
  rw [cn_congr (c := pw_ ρ' o) (d := pw_ ρ o) (fun j _ => by simp only [pw_, h7, h17]), cn_congr (c := pd_ ρ' o) (d := pd_ ρ o) (fun j _ => by simp only [pd_, h31, h34]), cn_congr (c := ps_ ρ' o) (d := ps_ ρ o) (fun j _ => by simp only [ps_, h31, h36]), cn_congr (c := pi_ ρ' o) (d := pi_ ρ o) (fun j _ => by simp only [pi_, h40])]
theorem m_tidy_2 {ρ : ed_S} {T K : Nat} (hT : T ≤ 8) (hK : K ≤ 8) (hrT : ρ 43 0 0 = nI T) (hr : ρ 48 0 0 = nI K) : ∀ (n k : Nat), 16 < n + k → k ≤ 16 → F_Mod_tidy_2 n (nI k) (td_ ρ T K k) = some (td_ ρ T K 16) := by
  intro n
  induction n with
  | zero => intro k h1 h2; omega
  | succ n ih =>
    intro k h1 h2
    rcases Nat.lt_or_ge k 16 with hk | hk
    · have e : F_Mod_tidy_2 (n + 1) (nI k) (td_ ρ T K k) = F_Mod_tidy_2 n (nI (k + 1)) (td_ ρ T K (k + 1)) := by
        show (if (16 : Int32) ≤ nI k then _ else _) = _
        rw [if_neg (by rw [show (16 : Int32) = nI 16 from rfl]; exact nI_ge hk (by omega)), vG_at hk (by omega)]
        simp only [nI_1]
        have h19 : td_ ρ T K k 19 0 k = ρ 19 0 k := by
          unfold td_
          rw [if_neg (by omega), if_neg (by omega)]
        have hhc : hc_ (td_ ρ T K k) (nI k) = hc_ ρ (nI k) := hc_eq (fun d => td_n (by decide) (by decide)) _
        rw [h19, m_handles]
        by_cases q1 : ρ 19 0 k = 0
        · rw [if_pos q1]
          congr 1
          funext a b d
          unfold td_
          by_cases hd : d = k
          · subst hd; simp [q1]
          · have hz : d < k + 1 ↔ d < k := by omega
            simp only [hz]
        · rw [if_neg q1]
          show (if nI (hc_ (td_ ρ T K k) (nI k)) ≤ 0 then _ else _) = _
          rw [hhc]
          by_cases q2 : hc_ ρ (nI k) = 0
          · rw [q2, if_pos (by decide), vG_at hk (by omega)]
            show vB2 (F_Mod_pointers (nI k) (ed_st (td_ ρ T K k) 23 0 k (-1))) _ = _
            have hp := m_pointers (ρ := ed_st (td_ ρ T K k) 23 0 k (-1)) (T := T) (K := K) hT hK (by rw [ed_st_n (by omega), td_n (by decide) (by decide)]; exact hrT) (by rw [ed_st_n (by omega), td_n (by decide) (by decide)]; exact hr) (nI k)
            have hq : ∀ a d, a ≠ 23 → a ≠ 19 → ed_st (td_ ρ T K k) 23 0 k (-1) a 0 d = ρ a 0 d := fun a d z1 z2 => by rw [ed_st_n (by omega), td_n z1 z2]
            rw [pc_eq (fun d => hq 7 d (by decide) (by decide)) (fun d => hq 17 d (by decide) (by decide)) (fun d => hq 31 d (by decide) (by decide)) (fun d => hq 34 d (by decide) (by decide)) (fun d => hq 36 d (by decide) (by decide)) (fun d => hq 40 d (by decide) (by decide))] at hp
            rw [vB2_at hp]
            by_cases q3 : pc_ ρ T K (nI k) = 0
            · rw [q3, if_pos (by decide), vG_at hk (by omega)]
              show F_Mod_tidy_2 n (nI (k + 1)) (ed_st (ed_st (td_ ρ T K k) 23 0 k (-1)) 19 0 k 0) = _
              congr 1
              funext a b d
              unfold td_ ed_st
              by_cases hd : d = k
              · subst hd
                by_cases ha : a = 23
                · subst ha
                  by_cases hb : b = 0
                  · subst hb; simp [q1, q2]
                  · simp [hb]
                · by_cases ha2 : a = 19
                  · subst ha2
                    by_cases hb : b = 0
                    · subst hb; simp [q1, q2, q3]
                    · simp [hb]
                  · simp [ha, ha2]
              · have hz : d < k + 1 ↔ d < k := by omega
                simp only [hz, hd, and_false, if_false]
            · rw [if_neg (by
                have hb : pc_ ρ T K (nI k) < 2 ^ 31 := by
                  unfold pc_
                  have a1 := cn_le (3 * T) (pw_ ρ (nI k))
                  have a2 := cn_le 8 (pd_ ρ (nI k))
                  have a3 := cn_le 8 (ps_ ρ (nI k))
                  have a4 := cn_le K (pi_ ρ (nI k))
                  omega
                exact nI_ne0 (by omega) hb)]
              congr 1
              funext a b d
              unfold td_ ed_st
              by_cases hd : d = k
              · subst hd
                by_cases ha : a = 23
                · subst ha
                  by_cases hb : b = 0
                  · subst hb; simp [q1, q2]
                  · simp [hb]
                · simp [ha, q3]
              · have hz : d < k + 1 ↔ d < k := by omega
                simp only [hz, hd, and_false, if_false]
          · rw [if_neg (by
              have hb : hc_ ρ (nI k) < 2 ^ 31 := by
                unfold hc_
                have a1 := cn_le 32 (fun q => decide (ρ 3 0 q = nI k))
                omega
              exact nI_nle (by omega) hb)]
            congr 1
            funext a b d
            unfold td_
            by_cases hd : d = k
            · subst hd; simp [q2]
            · have hz : d < k + 1 ↔ d < k := by omega
              simp only [hz]
      rw [e]
      exact ih (k + 1) (by omega) (by omega)
    · have hk8 : k = 16 := by omega
      subst hk8
      rfl
theorem m_tidy {ρ : ed_S} {T K : Nat} (hT : T ≤ 8) (hK : K ≤ 8) (hrT : ρ 43 0 0 = nI T) (hr : ρ 48 0 0 = nI K) : F_Mod_tidy ρ = some (td_ ρ T K 16) := by
  have e := m_tidy_2 hT hK hrT hr ed_fu 0 (by show _ < 64 + 0; omega) (Nat.zero_le _)
  have h0 : td_ ρ T K 0 = ρ := by
    funext a b d
    unfold td_
    rw [if_neg (by omega), if_neg (by omega)]
  rw [h0] at e
  exact e
