/-! ===== the pure part: a release and a withdrawal do not look at the calls ===== -/
/-- the calls of t are forgotten -/
def kp_ (t : Nat) (ρ : ed_S) : ed_S := ed_st ρ 9 0 t 0
theorem kp_r {t k i j : Nat} {ρ : ed_S} (h : k ≠ 9) : kp_ t ρ k i j = ρ k i j := ed_st_n (fun z => h z.1)
theorem kp_w {t k i j : Nat} {ρ : ed_S} {w : Int32} (h : k ≠ 9) : ed_st (kp_ t ρ) k i j w = kp_ t (ed_st ρ k i j w) := by
  funext x y z
  unfold kp_ ed_st
  by_cases c1 : x = k ∧ y = i ∧ z = j
  · rw [if_pos c1, if_neg (fun c => h (c1.1.symm.trans c.1)), if_pos c1]
  · rw [if_neg c1]
    by_cases c2 : x = 9 ∧ y = 0 ∧ z = t
    · rw [if_pos c2, if_pos c2]
    · rw [if_neg c2, if_neg c2, if_neg c1]
def k1_ (t : Nat) (o : Option ed_S) : Option ed_S := o.map (kp_ t)
def k2_ (t : Nat) (o : Option (Int32 × ed_S)) : Option (Int32 × ed_S) := o.map (fun z => (z.1, kp_ t z.2))
section EDK
variable {t : Nat}
theorem k1_some {ρ : ed_S} : k1_ t (some ρ) = some (kp_ t ρ) := rfl
theorem k2_some {r : Int32} {ρ : ed_S} : k2_ t (some (r, ρ)) = some (r, kp_ t ρ) := rfl
theorem k1_none : k1_ t none = none := rfl
theorem k2_none : k2_ t none = none := rfl
theorem k1_ite {c : Prop} [Decidable c] {A B : Option ed_S} : k1_ t (if c then A else B) = if c then k1_ t A else k1_ t B := by split <;> rfl
theorem k2_ite {c : Prop} [Decidable c] {A B : Option (Int32 × ed_S)} : k2_ t (if c then A else B) = if c then k2_ t A else k2_ t B := by split <;> rfl
theorem k1_vG {i : Int32} {n : Nat} {f : Nat → Option ed_S} : k1_ t (vG i n f) = vG i n (fun j => k1_ t (f j)) := by unfold vG; split <;> rfl
theorem k2_vG {i : Int32} {n : Nat} {f : Nat → Option (Int32 × ed_S)} : k2_ t (vG i n f) = vG i n (fun j => k2_ t (f j)) := by unfold vG; split <;> rfl
theorem k2_vC {c : Prop} [Decidable c] {A : Option (Int32 × ed_S)} : k2_ t (vC c A) = vC c (k2_ t A) := by unfold vC; split <;> rfl
theorem k1_vB1 {A : Option ed_S} {f : ed_S → Option ed_S} : k1_ t (vB1 A f) = vB1 A (fun σ => k1_ t (f σ)) := by cases A <;> rfl
theorem k2_vB1 {A : Option ed_S} {f : ed_S → Option (Int32 × ed_S)} : k2_ t (vB1 A f) = vB1 A (fun σ => k2_ t (f σ)) := by cases A <;> rfl
theorem k1_vB2 {A : Option (Int32 × ed_S)} {f : Int32 → ed_S → Option ed_S} : k1_ t (vB2 A f) = vB2 A (fun r σ => k1_ t (f r σ)) := by cases A <;> rfl
theorem k2_vB2 {A : Option (Int32 × ed_S)} {f : Int32 → ed_S → Option (Int32 × ed_S)} : k2_ t (vB2 A f) = vB2 A (fun r σ => k2_ t (f r σ)) := by cases A <;> rfl
theorem vB1_k1 {β : Type} {A : Option ed_S} {f : ed_S → Option β} : vB1 (k1_ t A) f = vB1 A (fun σ => f (kp_ t σ)) := by cases A <;> rfl
theorem vB2_k2 {β : Type} {A : Option (Int32 × ed_S)} {f : Int32 → ed_S → Option β} : vB2 (k2_ t A) f = vB2 A (fun r σ => f r (kp_ t σ)) := by cases A <;> rfl
theorem k_isSignaled (x1 x2 : Int32) (ρ : ed_S) : F_Mod_isSignaled x1 x2 (kp_ t ρ) = k2_ t (F_Mod_isSignaled x1 x2 ρ) := by
  simp only [F_Mod_isSignaled, kp_r, kp_w, ne_eq, Nat.reduceEqDiff, not_false_eq_true, vL, k2_some, k2_ite, k2_vG, k2_vC]
theorem k_take_37 (x1 x2 : Int32) (ρ : ed_S) : F_Mod_take_37 x1 x2 (kp_ t ρ) = k2_ t (F_Mod_take_37 x1 x2 ρ) := by
  simp only [F_Mod_take_37, kp_r, kp_w, ne_eq, Nat.reduceEqDiff, not_false_eq_true, vL, k2_some, k2_ite, k2_vG]
theorem k_take (x1 x2 : Int32) (ρ : ed_S) : F_Mod_take x1 x2 (kp_ t ρ) = k2_ t (F_Mod_take x1 x2 ρ) := by
  simp only [F_Mod_take, kp_r, kp_w, ne_eq, Nat.reduceEqDiff, not_false_eq_true, vL, k2_ite, k2_vG, k_take_37]
theorem k_satisfy_124 : ∀ (n : Nat) (x1 x2 x3 x4 x5 x6 : Int32) (ρ : ed_S), F_Mod_satisfy_124 n x1 x2 x3 x4 x5 x6 (kp_ t ρ) = k2_ t (F_Mod_satisfy_124 n x1 x2 x3 x4 x5 x6 ρ) := by
  intro n
  induction n with
  | zero => intros; rfl
  | succ n ih => intros; simp only [F_Mod_satisfy_124, kp_r, ne_eq, Nat.reduceEqDiff, not_false_eq_true, k2_some, k2_ite, k2_vG, k2_vB2, k_take, vB2_k2, ih]
theorem k_satisfy_10 : ∀ (n : Nat) (x1 x2 x3 x4 x5 : Int32) (ρ : ed_S), F_Mod_satisfy_10 n x1 x2 x3 x4 x5 (kp_ t ρ) = k2_ t (F_Mod_satisfy_10 n x1 x2 x3 x4 x5 ρ) := by
  intro n
  induction n with
  | zero => intros; rfl
  | succ n ih => intros; simp only [F_Mod_satisfy_10, kp_r, ne_eq, Nat.reduceEqDiff, not_false_eq_true, k2_some, k2_ite, k2_vG, k2_vB2, k_take, k_isSignaled, k_satisfy_124, vB2_k2, ih]
theorem k_satisfy (x1 : Int32) (ρ : ed_S) : F_Mod_satisfy x1 (kp_ t ρ) = k2_ t (F_Mod_satisfy x1 ρ) := k_satisfy_10 _ _ _ _ _ _ _
theorem k_waiter_4 : ∀ (n : Nat) (x1 x2 x3 : Int32) (ρ : ed_S), F_Mod_waiter_4 n x1 x2 x3 (kp_ t ρ) = k2_ t (F_Mod_waiter_4 n x1 x2 x3 ρ) := by
  intro n
  induction n with
  | zero => intros; rfl
  | succ n ih => intros; simp only [F_Mod_waiter_4, kp_r, ne_eq, Nat.reduceEqDiff, not_false_eq_true, k2_some, k2_ite, k2_vG, ih]
theorem k_waiter (x1 : Int32) (ρ : ed_S) : F_Mod_waiter x1 (kp_ t ρ) = k2_ t (F_Mod_waiter x1 ρ) := k_waiter_4 _ _ _ _ _
theorem k_ready (x1 : Int32) (ρ : ed_S) : F_Mod_ready x1 (kp_ t ρ) = k1_ t (F_Mod_ready x1 ρ) := by
  simp only [F_Mod_ready, kp_r, kp_w, ne_eq, Nat.reduceEqDiff, not_false_eq_true, vL, k1_some, k1_vG]
theorem k_go (x1 x2 : Int32) (ρ : ed_S) : F_Mod_go x1 x2 (kp_ t ρ) = k1_ t (F_Mod_go x1 x2 ρ) := by
  simp only [F_Mod_go, kp_r, kp_w, ne_eq, Nat.reduceEqDiff, not_false_eq_true, vL, k1_some, k1_vG, k1_vB1, k_ready, vB1_k1]
theorem k_release_8 : ∀ (n : Nat) (x1 x2 : Int32) (ρ : ed_S), F_Mod_release_8 n x1 x2 (kp_ t ρ) = k1_ t (F_Mod_release_8 n x1 x2 ρ) := by
  intro n
  induction n with
  | zero => intros; rfl
  | succ n ih => intros; simp only [F_Mod_release_8, kp_r, ne_eq, Nat.reduceEqDiff, not_false_eq_true, k1_some, k1_ite, k1_vG, k1_vB1, k1_vB2, k_satisfy, k_waiter, k_go, vB1_k1, vB2_k2, ih]
theorem k_release (ρ : ed_S) : F_Mod_release (kp_ t ρ) = k1_ t (F_Mod_release ρ) := by
  simp only [F_Mod_release, k_waiter, vB2_k2, k1_vB2, k_release_8]
theorem k_firstOf_4 : ∀ (n : Nat) (x1 x2 x3 : Int32) (ρ : ed_S), F_Mod_firstOf_4 n x1 x2 x3 (kp_ t ρ) = k2_ t (F_Mod_firstOf_4 n x1 x2 x3 ρ) := by
  intro n
  induction n with
  | zero => intros; rfl
  | succ n ih => intros; simp only [F_Mod_firstOf_4, kp_r, ne_eq, Nat.reduceEqDiff, not_false_eq_true, k2_some, k2_ite, k2_vG, ih]
theorem k_firstOf (x1 : Int32) (ρ : ed_S) : F_Mod_firstOf x1 (kp_ t ρ) = k2_ t (F_Mod_firstOf x1 ρ) := k_firstOf_4 _ _ _ _ _
theorem k_signal (x1 : Int32) (ρ : ed_S) : F_Mod_signal x1 (kp_ t ρ) = k1_ t (F_Mod_signal x1 ρ) := by
  simp only [F_Mod_signal, kp_w, ne_eq, Nat.reduceEqDiff, not_false_eq_true, vL, k1_some, k1_vG, k1_vB1, k_release, vB1_k1]
theorem k_over (x1 x2 x3 : Int32) (ρ : ed_S) : F_Mod_over x1 x2 x3 (kp_ t ρ) = k1_ t (F_Mod_over x1 x2 x3 ρ) := by
  simp only [F_Mod_over, kp_r, kp_w, ne_eq, Nat.reduceEqDiff, not_false_eq_true, vL, k1_some, k1_ite, k1_vG, k1_vB1, k_signal, vB1_k1]
theorem k_drop (x1 : Int32) (ρ : ed_S) : F_Mod_drop x1 (kp_ t ρ) = k2_ t (F_Mod_drop x1 ρ) := by
  simp only [F_Mod_drop, kp_r, kp_w, ne_eq, Nat.reduceEqDiff, not_false_eq_true, vL, k2_some, k2_ite, k2_vG, k2_vB1, k2_vB2, k_firstOf, k_over, vB1_k1, vB2_k2]
end EDK
