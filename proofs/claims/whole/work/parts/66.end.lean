/-! ===== the pure part: the end of a call ===== -/
theorem look_nop {σ ρ : ed_S} {T P : Nat} {q : Nat → List Nat} (h : gM σ ρ T P q) (hk : ρ 47 0 0 = 0 → lk_ ρ T q) : F_Desk_lookWhoRuns σ = some σ ∧ F_Mod_look ρ = some ρ := by
  obtain ⟨nQ, nA, nT, nU, hR, nC, nW, nD, nX, nV, nI', nP, nH, nO⟩ := h
  obtain ⟨a1, a2, a3, a4, a5, a6, a7, a8, a9, a10, a11, a12, a13⟩ := nA
  rcases a10 with hl | hl
  · have hlk := hk hl
    obtain ⟨x, eb, hb⟩ := d_best nQ
    obtain ⟨y, en, hn⟩ := m_next a2 a6
    have hnx := next_is (fun t ht => (nT t ht).2.2.2.2.2.2.2.2) nD hn
    have eC : F_Desk_lookWhoRuns σ = F_Sched_look σ := by
      unfold F_Desk_lookWhoRuns
      rw [if_pos (by rw [a9]; exact hl)]
      cases F_Sched_look σ <;> rfl
    have eR : F_Mod_look ρ = F_Mod_look_16 y ρ := by
      unfold F_Mod_look
      rw [if_neg (by rw [hl]; decide), vB2_at en]
    rcases hnx with ⟨he, hy⟩ | ⟨p, hd, l, hp, hq, hy, hab⟩
    · have hx : x = -1 := by
        rcases hb with hb | ⟨p, hp, _, hb, _⟩
        · exact hb.1
        · exact absurd (he p hp) hb
      refine ⟨?_, ?_⟩
      · rw [eC]
        unfold F_Sched_look
        rw [vB2_at eb, if_pos hx]
      · rw [eR]
        unfold F_Mod_look_16
        rw [if_pos (by rw [hy]; decide)]
    · have hx : x = nI p := by
        rcases hb with hb | ⟨p2, hp2, hx, hb, hb2⟩
        · exact absurd (hb.2 p hp) (by rw [hq]; exact List.cons_ne_nil _ _)
        · rcases Nat.lt_trichotomy p p2 with z | z | z
          · exact absurd (hab p2 z hp2) hb
          · rw [hx, z]
          · exact absurd (hb2 p z hp) (by rw [hq]; exact List.cons_ne_nil _ _)
      subst hx
      subst hy
      have hdm := ((nD.1 p hp).2 hd).mp (by rw [hq]; exact List.mem_cons_self)
      have hd8 : hd < 8 := by omega
      rcases hR with ⟨hr, hno⟩ | ⟨t, ht, hr, hno⟩
      · exact absurd (hlk.1 hr p hp) (by rw [hq]; exact List.cons_ne_nil _ _)
      · have ht8 : t < 8 := by omega
        obtain ⟨b1, b2, b3, b4, b5, b6, b7, b8, b9⟩ := nT t ht
        obtain ⟨pt, hpt, hprt⟩ := b9
        have hpp : ¬ pt < p := fun z => absurd (hlk.2 t pt hr ht hprt p z hp) (by rw [hq]; exact List.cons_ne_nil _ _)
        have c : ¬ nI pt < nI p := fun z => hpp ((nI_ltI (by omega) (by omega)).mp z)
        refine ⟨?_, ?_⟩
        · rw [eC]
          unfold F_Sched_look
          rw [vB2_at eb, if_neg (nI_m1 (by omega)), if_neg (by rw [a11, hr]; exact nI_m1 (by omega)), a11, hr, vG_at ht8 (by omega), b2, hprt, if_neg c]
        · rw [eR]
          unfold F_Mod_look_16
          rw [if_neg (nI_pos (by omega)), if_neg (by rw [hr]; exact nI_pos (by omega)), vG_at hd8 (by omega), hr, vG_at ht8 (by omega), hprt, hdm.2.2, if_neg c]
  · refine ⟨?_, ?_⟩
    · unfold F_Desk_lookWhoRuns
      rw [if_neg (by rw [a9, hl]; decide)]
    · unfold F_Mod_look F_Mod_look_16
      rw [if_pos hl, if_pos (by decide)]
/-- the reference's objects are tidy -/
def ti_ (ρ : ed_S) (T : Nat) (q : Nat → List Nat) : Prop := ∀ o, o < 16 → (ρ 19 0 o = 1 ↔ th_ ρ T q o) ∧ (th_ ρ T q o → hc_ ρ (nI o) = 0 → ρ 23 0 o = -1)
theorem td_ag (ρ : ed_S) (T K k : Nat) : ag_ ρ (td_ ρ T K k) [19, 23] := fun a b d h => td_n (fun z => h (by rw [z]; decide)) (fun z => h (by rw [z]; decide))
theorem s_tidy {σ ρ : ed_S} {T P : Nat} {q : Nat → List Nat} (h : gM σ ρ T P q) : ∃ ρ', F_Mod_tidy ρ = some ρ' ∧ gM σ ρ' T P q ∧ ti_ ρ' T q ∧ ag_ ρ ρ' [19, 23] := by
  obtain ⟨nQ, nA, nT, nU, nR, nC, nW, nD, nX, nV, nI', nP, nH, nO⟩ := h
  have hK : (q 33).length ≤ 8 := Nat.le_trans (nQ 33 (by omega)).2.1 (ed_cap8 33)
  have e := m_tidy nA.2.1 hK nA.2.2.2.2.2.1 nI'.1
  have b := td_ag ρ T (q 33).length 16
  obtain ⟨ρ', hρ'⟩ : ∃ z, z = td_ ρ T (q 33).length 16 := ⟨_, rfl⟩
  have hhc : ∀ o, hc_ ρ' o = hc_ ρ o := fun o => by rw [hρ']; exact hc_.ag b (by decide) o
  have hpc : ∀ o, pc_ ρ' T (q 33).length o = pc_ ρ T (q 33).length o := fun o => by rw [hρ']; exact pc_.ag b (by decide) (fun t _ => by rw [b.at 7 (by decide)]) o
  have hth : ∀ o, th_ ρ' T q o ↔ th_ ρ T q o := fun o => by unfold th_; rw [hhc, hpc]
  have h19 : ∀ o, o < 16 → th_ ρ T q o → ρ' 19 0 o = ρ 19 0 o := fun o ho ht => by
    rw [hρ']
    unfold td_
    rw [if_neg (by omega), if_neg (fun z => ht ⟨z.2.2.2.2.1, z.2.2.2.2.2⟩)]
  rw [← hρ'] at e b
  have a : ag_ σ σ [] := ag_.rf
  refine ⟨ρ', e, ⟨nQ, nA.ag a b (by decide) (by decide), nT.ag a b (by decide) (by decide), nU.ag a b (by decide) (by decide), nR.ag b (by decide), nC.ag b (by decide), nW.ag a b (by decide) (by decide), nD.ag b (by decide), nX.ag a b (by decide) (by decide), nV.ag b (by decide), nI'.ag b (by decide), nP.ag a b (by decide) (by decide), nH.ag a (by decide) hhc hpc, ?_, ?_⟩, ?_, b⟩
  · intro o ho
    rw [hρ']
    unfold td_
    rw [if_neg (by omega)]
    split
    · exact Or.inl rfl
    · exact nO.1 o ho
  · intro o ho ht
    rw [hth] at ht
    obtain ⟨x, y⟩ := nO.2 o ho ht
    refine ⟨?_, fun z => ?_⟩
    · have h9 := h19 o ho ht
      unfold ob_ at *
      rw [h9]
      simp only [b.at 20 (by decide), b.at 21 (by decide), b.at 22 (by decide), b.at 24 (by decide), b.at 25 (by decide), b.at 26 (by decide), b.at 27 (by decide), b.at 28 (by decide), b.at 29 (by decide), b.at 30 (by decide)]
      exact x
    · rw [hhc] at z
      rw [y z, hρ']
      unfold td_
      rw [if_neg (fun w => z w.2.2.2.2), if_neg (by omega)]
  · intro o ho
    refine ⟨⟨fun z => ?_, fun z => ?_⟩, fun z w => ?_⟩
    · intro w
      rw [hhc, hpc] at w
      rw [hρ'] at z
      unfold td_ at z
      rw [if_neg (by omega)] at z
      by_cases c : ρ 19 0 o = 0
      · rw [if_neg (fun v => v.2.2.2.1 c), c] at z
        exact absurd z (by decide)
      · rw [if_pos ⟨rfl, rfl, ho, c, w.1, w.2⟩] at z
        exact absurd z (by decide)
    · rw [hth] at z
      rw [h19 o ho z]
      exact (nO.2 o ho z).1.1
    · rw [hth] at z
      rw [hhc] at w
      have h1 := (nO.2 o ho z).1.1
      rw [hρ']
      unfold td_
      rw [if_pos ⟨rfl, rfl, ho, by rw [h1]; decide, w⟩]
/-- targets of transfers and devices of interrupts are of the right types -/
def gJ (ρ : ed_S) (q : Nat → List Nat) : Prop := (∀ i, i < 8 → ρ 31 0 i = 0 → ∀ o, o < 16 → ρ 36 0 i = nI o → ρ 22 0 o = 0 ∨ ρ 22 0 o = 1) ∧ ∀ v, v ∈ q 33 → ρ 22 0 (v % 16) = 5
def gK (ρ : ed_S) : Prop := (∀ p, p < 4 → ∃ g, g < 256 ∧ ρ 0 0 p = nI g) ∧ ∀ k, k < 64 → (ρ 28 0 k = 0 ∨ ρ 28 0 k = 1) ∧ (∃ g, g < 8 ∧ ρ 29 0 k = nI g) ∧ ∃ r, r < 8 ∧ ρ 30 0 k = nI r
/-- how many threads a process has had -/
def gL (ρ : ed_S) (T : Nat) : Prop := ∀ p, p < 4 → ∃ m, m ≤ T ∧ ρ 2 0 p = nI m ∧ ∀ t, t < T → ρ 5 0 t = nI p → 0 < m
/-- no wait that may be alerted has calls -/
def na_ (ρ : ed_S) (T : Nat) (q : Nat → List Nat) : Prop := ∀ t, t < T → ρ 7 0 t = 2 → ¬ ρ 14 0 t < 2 → q t = []
theorem gJ.ag {ρ ρ' : ed_S} {L' : List Nat} {q q' : Nat → List Nat} (b : ag_ ρ ρ' L') (h2 : ∀ k ∈ [22, 31, 36], k ∉ L') (hq : q' 33 = q 33) (h : gJ ρ q) : gJ ρ' q' := by
  unfold gJ at *
  simp only [b.at 22 (h2 22 (by decide)), b.at 31 (h2 31 (by decide)), b.at 36 (h2 36 (by decide)), hq]
  exact h
theorem gK.ag {ρ ρ' : ed_S} {L' : List Nat} (b : ag_ ρ ρ' L') (h2 : ∀ k ∈ [0, 28, 29, 30], k ∉ L') (h : gK ρ) : gK ρ' := by
  unfold gK at *
  simp only [b.at 0 (h2 0 (by decide)), b.at 28 (h2 28 (by decide)), b.at 29 (h2 29 (by decide)), b.at 30 (h2 30 (by decide))]
  exact h
theorem gL.ag {ρ ρ' : ed_S} {L' : List Nat} {T : Nat} (b : ag_ ρ ρ' L') (h2 : ∀ k ∈ [2, 5], k ∉ L') (h : gL ρ T) : gL ρ' T := by
  unfold gL at *
  simp only [b.at 2 (h2 2 (by decide)), b.at 5 (h2 5 (by decide))]
  exact h
/-- the relation in the middle of a call, with what goes with it -/
def zM (b : Nat) (σ ρ : ed_S) (T P : Nat) (q : Nat → List Nat) : Prop := gM σ ρ T P q ∧ bd_ ρ b ∧ qu_ ρ q ∧ gJ ρ q ∧ gK ρ ∧ gL ρ T
/-- the relation between the calls -/
def zS (n : Nat) (σ ρ : ed_S) : Prop := ∃ T P q, zM (1300 * n) σ ρ T P q ∧ (∃ C, C ≤ 9 * n ∧ ρ 46 0 0 = nI C) ∧ ti_ ρ T q ∧ (ρ 47 0 0 = 0 → lk_ ρ T q ∧ q 33 = [] ∧ na_ ρ T q)
theorem zM.mo {b c : Nat} {σ ρ : ed_S} {T P : Nat} {q : Nat → List Nat} (h : zM b σ ρ T P q) (hb : b ≤ c) : zM c σ ρ T P q := ⟨h.1, h.2.1.mo hb, h.2.2⟩
theorem zS.mo {n : Nat} {σ ρ : ed_S} (h : zS n σ ρ) : zS (n + 1) σ ρ := by
  obtain ⟨T, P, q, h1, ⟨C, h2, h3⟩, h4⟩ := h
  exact ⟨T, P, q, h1.mo (by omega), ⟨C, by omega, h3⟩, h4⟩
theorem bd_.look {ρ ρ' : ed_S} {b : Nat} (h : bd_ ρ b) (hb : b < 1000000) (h1 : ρ' 51 0 0 = ρ 51 0 0) (h2 : ρ' 52 0 0 = ρ 52 0 0 ∨ ρ' 52 0 0 = ρ 52 0 0 - 1) : bd_ ρ' (b + 1) := by
  have i := sub1 (h.nw hb).1
  obtain ⟨a1, a2, a3, a4⟩ := h
  refine ⟨?_, ?_, ?_, ?_⟩
  · rcases h2 with h2 | h2
    · rw [h2]; omega
    · rw [h2, i]; omega
  · rcases h2 with h2 | h2
    · rw [h2]; omega
    · rw [h2, i]; omega
  · rw [h1]; omega
  · rw [h1]; omega
theorem zM.tidy {b : Nat} {σ ρ : ed_S} {T P : Nat} {q : Nat → List Nat} (h : zM b σ ρ T P q) : ∃ ρ', F_Mod_tidy ρ = some ρ' ∧ zM b σ ρ' T P q ∧ ti_ ρ' T q ∧ ag_ ρ ρ' [19, 23] := by
  obtain ⟨h1, h2, h3, h4, h5, h6⟩ := h
  obtain ⟨ρ', e, m, t, g⟩ := s_tidy h1
  exact ⟨ρ', e, ⟨m, h2.ag g (by decide), fun t ht w => h3 t ht ((sat_.ag g (by decide)).mp w), h4.ag g (by decide) rfl, h5.ag g (by decide), h6.ag g (by decide)⟩, t, g⟩
/-- who runs is looked at, in the middle -/
theorem zM.look {b : Nat} {σ ρ : ed_S} {T P : Nat} {q : Nat → List Nat} (h : zM b σ ρ T P q) (hb : b < 1000000) : ∃ σ' ρ' q', F_Desk_lookWhoRuns σ = some σ' ∧ F_Mod_look ρ = some ρ' ∧ zM (b + 1) σ' ρ' T P q' ∧ ag_ σ σ' [5, 6, 7, 10, 18, 39] ∧ ag_ ρ ρ' [7, 16, 44, 45, 49, 52] ∧ (∀ r, r < 8 ∨ 16 ≤ r → q' r = q r) ∧ (∀ t, t < T → (ρ' 7 0 t = 2 ↔ ρ 7 0 t = 2)) ∧ (ρ 47 0 0 = 0 → lk_ ρ' T q') ∧ (ti_ ρ T q → ti_ ρ' T q') := by
  obtain ⟨h1, h2, h3, h4, h5, h6⟩ := h
  obtain ⟨σ', ρ', q', e1, e2, m, g1, g2, g3, g4, g5, g6⟩ := s_look h1 (h2.nw hb)
  refine ⟨σ', ρ', q', e1, e2, ⟨m, h2.look hb (g2.at 51 (by decide) 0 0) g3, fun t ht w => ?_, h4.ag g2 (by decide) (g4 33 (by omega)), h5.ag g2 (by decide), h6.ag g2 (by decide)⟩, g1, g2, g4, g5, g6, fun ti o ho => ?_⟩
  · rw [g4 32 (by omega)] at ht
    exact h3 t ht ((sat_.ag g2 (by decide)).mp w)
  · have hhc : ∀ o, hc_ ρ' o = hc_ ρ o := fun o => hc_.ag g2 (by decide) o
    have hpc : ∀ o, pc_ ρ' T (q' 33).length o = pc_ ρ T (q 33).length o := fun o => by rw [g4 33 (by omega)]; exact pc_.ag g2 (by decide) g5 o
    have hth : th_ ρ' T q' o ↔ th_ ρ T q o := by unfold th_; rw [hhc, hpc]
    rw [hth, hhc, g2.at 19 (by decide), g2.at 23 (by decide)]
    exact ti o ho
/-- the end of a call: tidied, looked at -/
theorem zM.fin {b n : Nat} {σ ρ : ed_S} {T P : Nat} {q : Nat → List Nat} (h : zM b σ ρ T P q) (hn : n < 600) (hb : b + 1 ≤ 1300 * n) (hC : ∃ C, C ≤ 9 * n ∧ ρ 46 0 0 = nI C) (hl : ρ 47 0 0 = 0 → q 33 = [] ∧ na_ ρ T q) (x : Int32) : ∃ σ' ρ', F_Desk_lookWhoRuns σ = some σ' ∧ F_Mod_end x ρ = some (x, ρ') ∧ zS n σ' ρ' ∧ ag_ σ σ' [5, 6, 7, 10, 18, 39] ∧ ∀ r, r < 8 → ∀ l, rw_ σ r l → rw_ σ' r l := by
  obtain ⟨ρ1, e1, m1, t1, g1⟩ := h.tidy
  obtain ⟨σ', ρ', q', e2, e3, m2, g2, g3, g4, g5, g6, g7⟩ := m1.look (by omega)
  refine ⟨σ', ρ', e2, ?_, ⟨T, P, q', m2.mo hb, ?_, g7 t1, fun z => ?_⟩, g2, fun r hr l hrl => ?_⟩
  · unfold F_Mod_end
    rw [vB1_at e1, vB1_at e3]
  · rw [g3.at 46 (by decide), g1.at 46 (by decide)]
    exact hC
  · rw [g3.at 47 (by decide)] at z
    refine ⟨g6 z, ?_⟩
    rw [g1.at 47 (by decide)] at z
    obtain ⟨z1, z2⟩ := hl z
    refine ⟨by rw [g4 33 (by omega)]; exact z1, fun t ht w v => ?_⟩
    have hT8 := h.1.2.1.2.1
    rw [g5 t ht, g1.at 7 (by decide)] at w
    rw [g3.at 14 (by decide), g1.at 14 (by decide)] at v
    rw [g4 t (by omega)]
    exact z2 t ht w v
  · have z1 := m2.1.1 r (by omega)
    rw [g4 r (by omega)] at z1
    have z2 := h.1.1 r (by omega)
    refine ⟨?_, hrl.2.1, fun j v hj => ?_⟩
    · rw [z1.1, ← z2.1]; exact hrl.1
    · have hln : l.length = (q r).length := by
        have := hrl.1.symm.trans z2.1
        have c1 := hrl.2.1
        have c2 := z2.2.1
        have c8 := ed_cap8 r
        exact (nI_eq (by omega) (by omega)).mp this
      have hjl := (List.getElem?_eq_some_iff.mp hj).1
      obtain ⟨w, hw⟩ : ∃ w, (q r)[j]? = some w := ⟨(q r)[j]'(by omega), List.getElem?_eq_getElem (by omega)⟩
      rw [z1.2.2 j w hw, ← z2.2.2 j w hw]
      exact hrl.2.2 j v hj
/-- the end of a call of the reference, where the class does not look -/
theorem zM.fin0 {b n : Nat} {σ ρ : ed_S} {T P : Nat} {q : Nat → List Nat} (h : zM b σ ρ T P q) (hb : b ≤ 1300 * n) (hC : ∃ C, C ≤ 9 * n ∧ ρ 46 0 0 = nI C) (hl : ρ 47 0 0 = 0 → lk_ ρ T q ∧ q 33 = [] ∧ na_ ρ T q) (x : Int32) : ∃ ρ', F_Mod_end x ρ = some (x, ρ') ∧ zS n σ ρ' := by
  obtain ⟨ρ1, e1, m1, t1, g1⟩ := h.tidy
  have hk : ρ1 47 0 0 = 0 → lk_ ρ1 T q ∧ q 33 = [] ∧ na_ ρ1 T q := fun z => by
    rw [g1.at 47 (by decide)] at z
    unfold lk_ na_
    simp only [g1.at 44 (by decide), g1.at 6 (by decide), g1.at 7 (by decide), g1.at 14 (by decide)]
    exact hl z
  refine ⟨ρ1, ?_, ⟨T, P, q, m1.mo hb, ?_, t1, hk⟩⟩
  · unfold F_Mod_end
    rw [vB1_at e1, vB1_at (look_nop m1.1 (fun z => (hk z).1)).2]
  · rw [g1.at 46 (by decide)]
    exact hC
