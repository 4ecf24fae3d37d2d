def pMod (_ : Nat) : Nat := 0
def pMgroups (_ : Nat) : Nat := 1
def pMalive (_ : Nat) : Nat := 2
def pMhad (_ : Nat) : Nat := 3
def pMhandleObject (_ : Nat) : Nat := 4
def pMhandleRights (_ : Nat) : Nat := 5
def pMhome (_ : Nat) : Nat := 6
def pMpriority (_ : Nat) : Nat := 7
def pMstate (_ : Nat) : Nat := 8
def pMresult (_ : Nat) : Nat := 9
def pMcalls (_ : Nat) : Nat := 10
def pMdelivered (_ : Nat) : Nat := 11
def pMlatest (_ : Nat) : Nat := 12
def pMused (_ : Nat) : Nat := 13
def pMdue (_ : Nat) : Nat := 14
def pMhow (_ : Nat) : Nat := 15
def pMbegan (_ : Nat) : Nat := 16
def pMstands (_ : Nat) : Nat := 17
def pMplace (_ : Nat) : Nat := 18
def pMrow (_ : Nat) : Nat := 19
def pMthere (_ : Nat) : Nat := 20
def pMisSet (_ : Nat) : Nat := 21
def pMabandoned (_ : Nat) : Nat := 22
def pMtype (_ : Nat) : Nat := 23
def pMname (_ : Nat) : Nat := 24
def pMcount (_ : Nat) : Nat := 25
def pMowner (_ : Nat) : Nat := 26
def pMtime (_ : Nat) : Nat := 27
def pMrules (_ : Nat) : Nat := 28
def pMruleKind (_ : Nat) : Nat := 29
def pMruleGroup (_ : Nat) : Nat := 30
def pMruleRights (_ : Nat) : Nat := 31
def pMtState (_ : Nat) : Nat := 32
def pMtAmount (_ : Nat) : Nat := 33
def pMtThread (_ : Nat) : Nat := 34
def pMtDevice (_ : Nat) : Nat := 35
def pMtLength (_ : Nat) : Nat := 36
def pMtSets (_ : Nat) : Nat := 37
def pMtOrder (_ : Nat) : Nat := 38
def pMtCancel (_ : Nat) : Nat := 39
def pMtAgain (_ : Nat) : Nat := 40
def pMwaiting (_ : Nat) : Nat := 41
def pMwaitingWell (_ : Nat) : Nat := 42
abbrev cMod (ad : Nat → Nat) (ca : Nat → ClassId) (σ : ed_S) (i : Nat) : va_E := .inr (8, [.ref (ad (pMgroups 0)), .ref (ad (pMalive 0)), .ref (ad (pMhad 0)), .ref (ad (pMhandleObject 0)), .ref (ad (pMhandleRights 0)), .ref (ad (pMhome 0)), .ref (ad (pMpriority 0)), .ref (ad (pMstate 0)), .ref (ad (pMresult 0)), .ref (ad (pMcalls 0)), .ref (ad (pMdelivered 0)), .ref (ad (pMlatest 0)), .ref (ad (pMused 0)), .ref (ad (pMdue 0)), .ref (ad (pMhow 0)), .ref (ad (pMbegan 0)), .ref (ad (pMstands 0)), .ref (ad (pMplace 0)), .ref (ad (pMrow 0)), .ref (ad (pMthere 0)), .ref (ad (pMisSet 0)), .ref (ad (pMabandoned 0)), .ref (ad (pMtype 0)), .ref (ad (pMname 0)), .ref (ad (pMcount 0)), .ref (ad (pMowner 0)), .ref (ad (pMtime 0)), .ref (ad (pMrules 0)), .ref (ad (pMruleKind 0)), .ref (ad (pMruleGroup 0)), .ref (ad (pMruleRights 0)), .ref (ad (pMtState 0)), .ref (ad (pMtAmount 0)), .ref (ad (pMtThread 0)), .ref (ad (pMtDevice 0)), .ref (ad (pMtLength 0)), .ref (ad (pMtSets 0)), .ref (ad (pMtOrder 0)), .ref (ad (pMtCancel 0)), .ref (ad (pMtAgain 0)), .ref (ad (pMwaiting 0)), .ref (ad (pMwaitingWell 0)), .int (σ 42 i 0), .int (σ 43 i 0), .int (σ 44 i 0), .int (σ 45 i 0), .int (σ 46 i 0), .int (σ 47 i 0), .int (σ 48 i 0), .int (σ 49 i 0), .int (σ 50 i 0), .int (σ 51 i 0), .int (σ 52 i 0)])
abbrev cMgroups (ad : Nat → Nat) (ca : Nat → ClassId) (σ : ed_S) (i : Nat) : va_E := .inl (ca 0, 4, .inl (fun j => σ 0 i j))
abbrev cMalive (ad : Nat → Nat) (ca : Nat → ClassId) (σ : ed_S) (i : Nat) : va_E := .inl (ca 0, 4, .inl (fun j => σ 1 i j))
abbrev cMhad (ad : Nat → Nat) (ca : Nat → ClassId) (σ : ed_S) (i : Nat) : va_E := .inl (ca 0, 4, .inl (fun j => σ 2 i j))
abbrev cMhandleObject (ad : Nat → Nat) (ca : Nat → ClassId) (σ : ed_S) (i : Nat) : va_E := .inl (ca 0, 32, .inl (fun j => σ 3 i j))
abbrev cMhandleRights (ad : Nat → Nat) (ca : Nat → ClassId) (σ : ed_S) (i : Nat) : va_E := .inl (ca 0, 32, .inl (fun j => σ 4 i j))
abbrev cMhome (ad : Nat → Nat) (ca : Nat → ClassId) (σ : ed_S) (i : Nat) : va_E := .inl (ca 0, 8, .inl (fun j => σ 5 i j))
abbrev cMpriority (ad : Nat → Nat) (ca : Nat → ClassId) (σ : ed_S) (i : Nat) : va_E := .inl (ca 0, 8, .inl (fun j => σ 6 i j))
abbrev cMstate (ad : Nat → Nat) (ca : Nat → ClassId) (σ : ed_S) (i : Nat) : va_E := .inl (ca 0, 8, .inl (fun j => σ 7 i j))
abbrev cMresult (ad : Nat → Nat) (ca : Nat → ClassId) (σ : ed_S) (i : Nat) : va_E := .inl (ca 0, 8, .inl (fun j => σ 8 i j))
abbrev cMcalls (ad : Nat → Nat) (ca : Nat → ClassId) (σ : ed_S) (i : Nat) : va_E := .inl (ca 0, 8, .inl (fun j => σ 9 i j))
abbrev cMdelivered (ad : Nat → Nat) (ca : Nat → ClassId) (σ : ed_S) (i : Nat) : va_E := .inl (ca 0, 8, .inl (fun j => σ 10 i j))
abbrev cMlatest (ad : Nat → Nat) (ca : Nat → ClassId) (σ : ed_S) (i : Nat) : va_E := .inl (ca 0, 8, .inl (fun j => σ 11 i j))
abbrev cMused (ad : Nat → Nat) (ca : Nat → ClassId) (σ : ed_S) (i : Nat) : va_E := .inl (ca 0, 8, .inl (fun j => σ 12 i j))
abbrev cMdue (ad : Nat → Nat) (ca : Nat → ClassId) (σ : ed_S) (i : Nat) : va_E := .inl (ca 0, 8, .inl (fun j => σ 13 i j))
abbrev cMhow (ad : Nat → Nat) (ca : Nat → ClassId) (σ : ed_S) (i : Nat) : va_E := .inl (ca 0, 8, .inl (fun j => σ 14 i j))
abbrev cMbegan (ad : Nat → Nat) (ca : Nat → ClassId) (σ : ed_S) (i : Nat) : va_E := .inl (ca 0, 8, .inl (fun j => σ 15 i j))
abbrev cMstands (ad : Nat → Nat) (ca : Nat → ClassId) (σ : ed_S) (i : Nat) : va_E := .inl (ca 0, 8, .inl (fun j => σ 16 i j))
abbrev cMplace (ad : Nat → Nat) (ca : Nat → ClassId) (σ : ed_S) (i : Nat) : va_E := .inl (ca 0, 24, .inl (fun j => σ 17 i j))
abbrev cMrow (ad : Nat → Nat) (ca : Nat → ClassId) (σ : ed_S) (i : Nat) : va_E := .inl (ca 0, 32, .inl (fun j => σ 18 i j))
abbrev cMthere (ad : Nat → Nat) (ca : Nat → ClassId) (σ : ed_S) (i : Nat) : va_E := .inl (ca 6, 16, .inl (fun j => σ 19 i j))
abbrev cMisSet (ad : Nat → Nat) (ca : Nat → ClassId) (σ : ed_S) (i : Nat) : va_E := .inl (ca 6, 16, .inl (fun j => σ 20 i j))
abbrev cMabandoned (ad : Nat → Nat) (ca : Nat → ClassId) (σ : ed_S) (i : Nat) : va_E := .inl (ca 6, 16, .inl (fun j => σ 21 i j))
abbrev cMtype (ad : Nat → Nat) (ca : Nat → ClassId) (σ : ed_S) (i : Nat) : va_E := .inl (ca 0, 16, .inl (fun j => σ 22 i j))
abbrev cMname (ad : Nat → Nat) (ca : Nat → ClassId) (σ : ed_S) (i : Nat) : va_E := .inl (ca 0, 16, .inl (fun j => σ 23 i j))
abbrev cMcount (ad : Nat → Nat) (ca : Nat → ClassId) (σ : ed_S) (i : Nat) : va_E := .inl (ca 0, 16, .inl (fun j => σ 24 i j))
abbrev cMowner (ad : Nat → Nat) (ca : Nat → ClassId) (σ : ed_S) (i : Nat) : va_E := .inl (ca 0, 16, .inl (fun j => σ 25 i j))
abbrev cMtime (ad : Nat → Nat) (ca : Nat → ClassId) (σ : ed_S) (i : Nat) : va_E := .inl (ca 0, 16, .inl (fun j => σ 26 i j))
abbrev cMrules (ad : Nat → Nat) (ca : Nat → ClassId) (σ : ed_S) (i : Nat) : va_E := .inl (ca 0, 16, .inl (fun j => σ 27 i j))
abbrev cMruleKind (ad : Nat → Nat) (ca : Nat → ClassId) (σ : ed_S) (i : Nat) : va_E := .inl (ca 0, 64, .inl (fun j => σ 28 i j))
abbrev cMruleGroup (ad : Nat → Nat) (ca : Nat → ClassId) (σ : ed_S) (i : Nat) : va_E := .inl (ca 0, 64, .inl (fun j => σ 29 i j))
abbrev cMruleRights (ad : Nat → Nat) (ca : Nat → ClassId) (σ : ed_S) (i : Nat) : va_E := .inl (ca 0, 64, .inl (fun j => σ 30 i j))
abbrev cMtState (ad : Nat → Nat) (ca : Nat → ClassId) (σ : ed_S) (i : Nat) : va_E := .inl (ca 0, 8, .inl (fun j => σ 31 i j))
abbrev cMtAmount (ad : Nat → Nat) (ca : Nat → ClassId) (σ : ed_S) (i : Nat) : va_E := .inl (ca 0, 8, .inl (fun j => σ 32 i j))
abbrev cMtThread (ad : Nat → Nat) (ca : Nat → ClassId) (σ : ed_S) (i : Nat) : va_E := .inl (ca 0, 8, .inl (fun j => σ 33 i j))
abbrev cMtDevice (ad : Nat → Nat) (ca : Nat → ClassId) (σ : ed_S) (i : Nat) : va_E := .inl (ca 0, 8, .inl (fun j => σ 34 i j))
abbrev cMtLength (ad : Nat → Nat) (ca : Nat → ClassId) (σ : ed_S) (i : Nat) : va_E := .inl (ca 0, 8, .inl (fun j => σ 35 i j))
abbrev cMtSets (ad : Nat → Nat) (ca : Nat → ClassId) (σ : ed_S) (i : Nat) : va_E := .inl (ca 0, 8, .inl (fun j => σ 36 i j))
abbrev cMtOrder (ad : Nat → Nat) (ca : Nat → ClassId) (σ : ed_S) (i : Nat) : va_E := .inl (ca 0, 8, .inl (fun j => σ 37 i j))
abbrev cMtCancel (ad : Nat → Nat) (ca : Nat → ClassId) (σ : ed_S) (i : Nat) : va_E := .inl (ca 6, 8, .inl (fun j => σ 38 i j))
abbrev cMtAgain (ad : Nat → Nat) (ca : Nat → ClassId) (σ : ed_S) (i : Nat) : va_E := .inl (ca 6, 8, .inl (fun j => σ 39 i j))
abbrev cMwaiting (ad : Nat → Nat) (ca : Nat → ClassId) (σ : ed_S) (i : Nat) : va_E := .inl (ca 0, 8, .inl (fun j => σ 40 i j))
abbrev cMwaitingWell (ad : Nat → Nat) (ca : Nat → ClassId) (σ : ed_S) (i : Nat) : va_E := .inl (ca 6, 8, .inl (fun j => σ 41 i j))
def md_ct (ad : Nat → Nat) (ca : Nat → ClassId) (σ : ed_S) (q : Nat) : va_E := (if q = 0 then cMod ad ca σ 0 else (if q = 1 then cMgroups ad ca σ 0 else (if q = 2 then cMalive ad ca σ 0 else (if q = 3 then cMhad ad ca σ 0 else (if q = 4 then cMhandleObject ad ca σ 0 else (if q = 5 then cMhandleRights ad ca σ 0 else (if q = 6 then cMhome ad ca σ 0 else (if q = 7 then cMpriority ad ca σ 0 else (if q = 8 then cMstate ad ca σ 0 else (if q = 9 then cMresult ad ca σ 0 else (if q = 10 then cMcalls ad ca σ 0 else (if q = 11 then cMdelivered ad ca σ 0 else (if q = 12 then cMlatest ad ca σ 0 else (if q = 13 then cMused ad ca σ 0 else (if q = 14 then cMdue ad ca σ 0 else (if q = 15 then cMhow ad ca σ 0 else (if q = 16 then cMbegan ad ca σ 0 else (if q = 17 then cMstands ad ca σ 0 else (if q = 18 then cMplace ad ca σ 0 else (if q = 19 then cMrow ad ca σ 0 else (if q = 20 then cMthere ad ca σ 0 else (if q = 21 then cMisSet ad ca σ 0 else (if q = 22 then cMabandoned ad ca σ 0 else (if q = 23 then cMtype ad ca σ 0 else (if q = 24 then cMname ad ca σ 0 else (if q = 25 then cMcount ad ca σ 0 else (if q = 26 then cMowner ad ca σ 0 else (if q = 27 then cMtime ad ca σ 0 else (if q = 28 then cMrules ad ca σ 0 else (if q = 29 then cMruleKind ad ca σ 0 else (if q = 30 then cMruleGroup ad ca σ 0 else (if q = 31 then cMruleRights ad ca σ 0 else (if q = 32 then cMtState ad ca σ 0 else (if q = 33 then cMtAmount ad ca σ 0 else (if q = 34 then cMtThread ad ca σ 0 else (if q = 35 then cMtDevice ad ca σ 0 else (if q = 36 then cMtLength ad ca σ 0 else (if q = 37 then cMtSets ad ca σ 0 else (if q = 38 then cMtOrder ad ca σ 0 else (if q = 39 then cMtCancel ad ca σ 0 else (if q = 40 then cMtAgain ad ca σ 0 else (if q = 41 then cMwaiting ad ca σ 0 else cMwaitingWell ad ca σ 0))))))))))))))))))))))))))))))))))))))))))
def md_ow : Nat → Nat
  | 0 => 1
  | 1 => 2
  | 2 => 3
  | 3 => 4
  | 4 => 5
  | 5 => 6
  | 6 => 7
  | 7 => 8
  | 8 => 9
  | 9 => 10
  | 10 => 11
  | 11 => 12
  | 12 => 13
  | 13 => 14
  | 14 => 15
  | 15 => 16
  | 16 => 17
  | 17 => 18
  | 18 => 19
  | 19 => 20
  | 20 => 21
  | 21 => 22
  | 22 => 23
  | 23 => 24
  | 24 => 25
  | 25 => 26
  | 26 => 27
  | 27 => 28
  | 28 => 29
  | 29 => 30
  | 30 => 31
  | 31 => 32
  | 32 => 33
  | 33 => 34
  | 34 => 35
  | 35 => 36
  | 36 => 37
  | 37 => 38
  | 38 => 39
  | 39 => 40
  | 40 => 41
  | 41 => 42
  | 42 => 0
  | 43 => 0
  | 44 => 0
  | 45 => 0
  | 46 => 0
  | 47 => 0
  | 48 => 0
  | 49 => 0
  | 50 => 0
  | 51 => 0
  | 52 => 0
  | _ => 1000
def md_w (ad : Nat → Nat) (ca : Nat → ClassId) (σ : ed_S) : va_W := (List.range 43).map (fun q => (ad q, md_ct ad ca σ q))
theorem md_w_at {ad : Nat → Nat} {ca : Nat → ClassId} {σ : ed_S} {q : Nat} (h : q < 43) : (md_w ad ca σ)[q]? = some (ad q, md_ct ad ca σ q) := by simp [md_w, h]
theorem md_w_set {ad : Nat → Nat} {ca : Nat → ClassId} {σ σ2 : ed_S} {q : Nat} {x : va_E} (hq : q < 43) (hx : md_ct ad ca σ2 q = x) (hn : ∀ z, z < 43 → z ≠ q → md_ct ad ca σ2 z = md_ct ad ca σ z) : (md_w ad ca σ).set q (ad q, x) = md_w ad ca σ2 := by
  apply List.ext_getElem?
  intro k
  by_cases hk : k = q
  · subst hk
    rw [List.getElem?_set_self (by simp [md_w, hq]), md_w_at hq, hx]
  · rw [List.getElem?_set_ne (Ne.symm hk)]
    by_cases hl : k < 43
    · rw [md_w_at hl, md_w_at hl, hn k hl hk]
    · rw [List.getElem?_eq_none (by simp [md_w]; omega), List.getElem?_eq_none (by simp [md_w]; omega)]
set_option maxHeartbeats 4000000 in
theorem md_ct_congr {ad : Nat → Nat} {ca : Nat → ClassId} {σ σ2 : ed_S} {q : Nat} (hq : q < 43) (h : ∀ k j, md_ow k = q → σ k 0 j = σ2 k 0 j) : md_ct ad ca σ q = md_ct ad ca σ2 q := by
  unfold md_ct
  by_cases a0 : q = 0
  · rw [if_pos a0, if_pos a0]
    unfold cMod; rw [h 42 0 (by rw [a0]; rfl), h 43 0 (by rw [a0]; rfl), h 44 0 (by rw [a0]; rfl), h 45 0 (by rw [a0]; rfl), h 46 0 (by rw [a0]; rfl), h 47 0 (by rw [a0]; rfl), h 48 0 (by rw [a0]; rfl), h 49 0 (by rw [a0]; rfl), h 50 0 (by rw [a0]; rfl), h 51 0 (by rw [a0]; rfl), h 52 0 (by rw [a0]; rfl)]
  rw [if_neg a0, if_neg a0]
  by_cases a1 : q = 1
  · rw [if_pos a1, if_pos a1]
    unfold cMgroups; rw [show (fun j => σ 0 0 j) = (fun j => σ2 0 0 j) from funext fun j => h 0 j (by rw [a1]; rfl)]
  rw [if_neg a1, if_neg a1]
  by_cases a2 : q = 2
  · rw [if_pos a2, if_pos a2]
    unfold cMalive; rw [show (fun j => σ 1 0 j) = (fun j => σ2 1 0 j) from funext fun j => h 1 j (by rw [a2]; rfl)]
  rw [if_neg a2, if_neg a2]
  by_cases a3 : q = 3
  · rw [if_pos a3, if_pos a3]
    unfold cMhad; rw [show (fun j => σ 2 0 j) = (fun j => σ2 2 0 j) from funext fun j => h 2 j (by rw [a3]; rfl)]
  rw [if_neg a3, if_neg a3]
  by_cases a4 : q = 4
  · rw [if_pos a4, if_pos a4]
    unfold cMhandleObject; rw [show (fun j => σ 3 0 j) = (fun j => σ2 3 0 j) from funext fun j => h 3 j (by rw [a4]; rfl)]
  rw [if_neg a4, if_neg a4]
  by_cases a5 : q = 5
  · rw [if_pos a5, if_pos a5]
    unfold cMhandleRights; rw [show (fun j => σ 4 0 j) = (fun j => σ2 4 0 j) from funext fun j => h 4 j (by rw [a5]; rfl)]
  rw [if_neg a5, if_neg a5]
  by_cases a6 : q = 6
  · rw [if_pos a6, if_pos a6]
    unfold cMhome; rw [show (fun j => σ 5 0 j) = (fun j => σ2 5 0 j) from funext fun j => h 5 j (by rw [a6]; rfl)]
  rw [if_neg a6, if_neg a6]
  by_cases a7 : q = 7
  · rw [if_pos a7, if_pos a7]
    unfold cMpriority; rw [show (fun j => σ 6 0 j) = (fun j => σ2 6 0 j) from funext fun j => h 6 j (by rw [a7]; rfl)]
  rw [if_neg a7, if_neg a7]
  by_cases a8 : q = 8
  · rw [if_pos a8, if_pos a8]
    unfold cMstate; rw [show (fun j => σ 7 0 j) = (fun j => σ2 7 0 j) from funext fun j => h 7 j (by rw [a8]; rfl)]
  rw [if_neg a8, if_neg a8]
  by_cases a9 : q = 9
  · rw [if_pos a9, if_pos a9]
    unfold cMresult; rw [show (fun j => σ 8 0 j) = (fun j => σ2 8 0 j) from funext fun j => h 8 j (by rw [a9]; rfl)]
  rw [if_neg a9, if_neg a9]
  by_cases a10 : q = 10
  · rw [if_pos a10, if_pos a10]
    unfold cMcalls; rw [show (fun j => σ 9 0 j) = (fun j => σ2 9 0 j) from funext fun j => h 9 j (by rw [a10]; rfl)]
  rw [if_neg a10, if_neg a10]
  by_cases a11 : q = 11
  · rw [if_pos a11, if_pos a11]
    unfold cMdelivered; rw [show (fun j => σ 10 0 j) = (fun j => σ2 10 0 j) from funext fun j => h 10 j (by rw [a11]; rfl)]
  rw [if_neg a11, if_neg a11]
  by_cases a12 : q = 12
  · rw [if_pos a12, if_pos a12]
    unfold cMlatest; rw [show (fun j => σ 11 0 j) = (fun j => σ2 11 0 j) from funext fun j => h 11 j (by rw [a12]; rfl)]
  rw [if_neg a12, if_neg a12]
  by_cases a13 : q = 13
  · rw [if_pos a13, if_pos a13]
    unfold cMused; rw [show (fun j => σ 12 0 j) = (fun j => σ2 12 0 j) from funext fun j => h 12 j (by rw [a13]; rfl)]
  rw [if_neg a13, if_neg a13]
  by_cases a14 : q = 14
  · rw [if_pos a14, if_pos a14]
    unfold cMdue; rw [show (fun j => σ 13 0 j) = (fun j => σ2 13 0 j) from funext fun j => h 13 j (by rw [a14]; rfl)]
  rw [if_neg a14, if_neg a14]
  by_cases a15 : q = 15
  · rw [if_pos a15, if_pos a15]
    unfold cMhow; rw [show (fun j => σ 14 0 j) = (fun j => σ2 14 0 j) from funext fun j => h 14 j (by rw [a15]; rfl)]
  rw [if_neg a15, if_neg a15]
  by_cases a16 : q = 16
  · rw [if_pos a16, if_pos a16]
    unfold cMbegan; rw [show (fun j => σ 15 0 j) = (fun j => σ2 15 0 j) from funext fun j => h 15 j (by rw [a16]; rfl)]
  rw [if_neg a16, if_neg a16]
  by_cases a17 : q = 17
  · rw [if_pos a17, if_pos a17]
    unfold cMstands; rw [show (fun j => σ 16 0 j) = (fun j => σ2 16 0 j) from funext fun j => h 16 j (by rw [a17]; rfl)]
  rw [if_neg a17, if_neg a17]
  by_cases a18 : q = 18
  · rw [if_pos a18, if_pos a18]
    unfold cMplace; rw [show (fun j => σ 17 0 j) = (fun j => σ2 17 0 j) from funext fun j => h 17 j (by rw [a18]; rfl)]
  rw [if_neg a18, if_neg a18]
  by_cases a19 : q = 19
  · rw [if_pos a19, if_pos a19]
    unfold cMrow; rw [show (fun j => σ 18 0 j) = (fun j => σ2 18 0 j) from funext fun j => h 18 j (by rw [a19]; rfl)]
  rw [if_neg a19, if_neg a19]
  by_cases a20 : q = 20
  · rw [if_pos a20, if_pos a20]
    unfold cMthere; rw [show (fun j => σ 19 0 j) = (fun j => σ2 19 0 j) from funext fun j => h 19 j (by rw [a20]; rfl)]
  rw [if_neg a20, if_neg a20]
  by_cases a21 : q = 21
  · rw [if_pos a21, if_pos a21]
    unfold cMisSet; rw [show (fun j => σ 20 0 j) = (fun j => σ2 20 0 j) from funext fun j => h 20 j (by rw [a21]; rfl)]
  rw [if_neg a21, if_neg a21]
  by_cases a22 : q = 22
  · rw [if_pos a22, if_pos a22]
    unfold cMabandoned; rw [show (fun j => σ 21 0 j) = (fun j => σ2 21 0 j) from funext fun j => h 21 j (by rw [a22]; rfl)]
  rw [if_neg a22, if_neg a22]
  by_cases a23 : q = 23
  · rw [if_pos a23, if_pos a23]
    unfold cMtype; rw [show (fun j => σ 22 0 j) = (fun j => σ2 22 0 j) from funext fun j => h 22 j (by rw [a23]; rfl)]
  rw [if_neg a23, if_neg a23]
  by_cases a24 : q = 24
  · rw [if_pos a24, if_pos a24]
    unfold cMname; rw [show (fun j => σ 23 0 j) = (fun j => σ2 23 0 j) from funext fun j => h 23 j (by rw [a24]; rfl)]
  rw [if_neg a24, if_neg a24]
  by_cases a25 : q = 25
  · rw [if_pos a25, if_pos a25]
    unfold cMcount; rw [show (fun j => σ 24 0 j) = (fun j => σ2 24 0 j) from funext fun j => h 24 j (by rw [a25]; rfl)]
  rw [if_neg a25, if_neg a25]
  by_cases a26 : q = 26
  · rw [if_pos a26, if_pos a26]
    unfold cMowner; rw [show (fun j => σ 25 0 j) = (fun j => σ2 25 0 j) from funext fun j => h 25 j (by rw [a26]; rfl)]
  rw [if_neg a26, if_neg a26]
  by_cases a27 : q = 27
  · rw [if_pos a27, if_pos a27]
    unfold cMtime; rw [show (fun j => σ 26 0 j) = (fun j => σ2 26 0 j) from funext fun j => h 26 j (by rw [a27]; rfl)]
  rw [if_neg a27, if_neg a27]
  by_cases a28 : q = 28
  · rw [if_pos a28, if_pos a28]
    unfold cMrules; rw [show (fun j => σ 27 0 j) = (fun j => σ2 27 0 j) from funext fun j => h 27 j (by rw [a28]; rfl)]
  rw [if_neg a28, if_neg a28]
  by_cases a29 : q = 29
  · rw [if_pos a29, if_pos a29]
    unfold cMruleKind; rw [show (fun j => σ 28 0 j) = (fun j => σ2 28 0 j) from funext fun j => h 28 j (by rw [a29]; rfl)]
  rw [if_neg a29, if_neg a29]
  by_cases a30 : q = 30
  · rw [if_pos a30, if_pos a30]
    unfold cMruleGroup; rw [show (fun j => σ 29 0 j) = (fun j => σ2 29 0 j) from funext fun j => h 29 j (by rw [a30]; rfl)]
  rw [if_neg a30, if_neg a30]
  by_cases a31 : q = 31
  · rw [if_pos a31, if_pos a31]
    unfold cMruleRights; rw [show (fun j => σ 30 0 j) = (fun j => σ2 30 0 j) from funext fun j => h 30 j (by rw [a31]; rfl)]
  rw [if_neg a31, if_neg a31]
  by_cases a32 : q = 32
  · rw [if_pos a32, if_pos a32]
    unfold cMtState; rw [show (fun j => σ 31 0 j) = (fun j => σ2 31 0 j) from funext fun j => h 31 j (by rw [a32]; rfl)]
  rw [if_neg a32, if_neg a32]
  by_cases a33 : q = 33
  · rw [if_pos a33, if_pos a33]
    unfold cMtAmount; rw [show (fun j => σ 32 0 j) = (fun j => σ2 32 0 j) from funext fun j => h 32 j (by rw [a33]; rfl)]
  rw [if_neg a33, if_neg a33]
  by_cases a34 : q = 34
  · rw [if_pos a34, if_pos a34]
    unfold cMtThread; rw [show (fun j => σ 33 0 j) = (fun j => σ2 33 0 j) from funext fun j => h 33 j (by rw [a34]; rfl)]
  rw [if_neg a34, if_neg a34]
  by_cases a35 : q = 35
  · rw [if_pos a35, if_pos a35]
    unfold cMtDevice; rw [show (fun j => σ 34 0 j) = (fun j => σ2 34 0 j) from funext fun j => h 34 j (by rw [a35]; rfl)]
  rw [if_neg a35, if_neg a35]
  by_cases a36 : q = 36
  · rw [if_pos a36, if_pos a36]
    unfold cMtLength; rw [show (fun j => σ 35 0 j) = (fun j => σ2 35 0 j) from funext fun j => h 35 j (by rw [a36]; rfl)]
  rw [if_neg a36, if_neg a36]
  by_cases a37 : q = 37
  · rw [if_pos a37, if_pos a37]
    unfold cMtSets; rw [show (fun j => σ 36 0 j) = (fun j => σ2 36 0 j) from funext fun j => h 36 j (by rw [a37]; rfl)]
  rw [if_neg a37, if_neg a37]
  by_cases a38 : q = 38
  · rw [if_pos a38, if_pos a38]
    unfold cMtOrder; rw [show (fun j => σ 37 0 j) = (fun j => σ2 37 0 j) from funext fun j => h 37 j (by rw [a38]; rfl)]
  rw [if_neg a38, if_neg a38]
  by_cases a39 : q = 39
  · rw [if_pos a39, if_pos a39]
    unfold cMtCancel; rw [show (fun j => σ 38 0 j) = (fun j => σ2 38 0 j) from funext fun j => h 38 j (by rw [a39]; rfl)]
  rw [if_neg a39, if_neg a39]
  by_cases a40 : q = 40
  · rw [if_pos a40, if_pos a40]
    unfold cMtAgain; rw [show (fun j => σ 39 0 j) = (fun j => σ2 39 0 j) from funext fun j => h 39 j (by rw [a40]; rfl)]
  rw [if_neg a40, if_neg a40]
  by_cases a41 : q = 41
  · rw [if_pos a41, if_pos a41]
    unfold cMwaiting; rw [show (fun j => σ 40 0 j) = (fun j => σ2 40 0 j) from funext fun j => h 40 j (by rw [a41]; rfl)]
  rw [if_neg a41, if_neg a41]
  have a42 : q = 42 := by omega
  unfold cMwaitingWell; rw [show (fun j => σ 41 0 j) = (fun j => σ2 41 0 j) from funext fun j => h 41 j (by rw [a42]; rfl)]
theorem md_ct_st {ad : Nat → Nat} {ca : Nat → ClassId} {σ : ed_S} {k i j : Nat} {v : Int32} {z : Nat} (hq : z < 43) (hz : z ≠ md_ow k) : md_ct ad ca (ed_st σ k i j v) z = md_ct ad ca σ z := by
  refine md_ct_congr hq (fun a d h => ?_)
  unfold ed_st
  rw [if_neg]
  rintro ⟨rfl, -, rfl⟩
  exact hz h.symm
theorem md_ct_Mod {ad : Nat → Nat} {ca : Nat → ClassId} {σ : ed_S} {i : Nat} (h : i < 1) : md_ct ad ca σ (pMod i) = cMod ad ca σ i := by
  rcases (show i = 0 by omega) with rfl
  rfl
theorem md_lt_Mod {i : Nat} (_h : i < 1) : pMod i < 43 := by unfold pMod; omega
theorem md_w_Mod {ad : Nat → Nat} {ca : Nat → ClassId} {σ : ed_S} {i : Nat} (h : i < 1) : (md_w ad ca σ)[pMod i]? = some (ad (pMod i), cMod ad ca σ i) := by rw [md_w_at (md_lt_Mod h), md_ct_Mod h]
theorem md_ct_Mgroups {ad : Nat → Nat} {ca : Nat → ClassId} {σ : ed_S} {i : Nat} (h : i < 1) : md_ct ad ca σ (pMgroups i) = cMgroups ad ca σ i := by
  rcases (show i = 0 by omega) with rfl
  rfl
theorem md_lt_Mgroups {i : Nat} (_h : i < 1) : pMgroups i < 43 := by unfold pMgroups; omega
theorem md_w_Mgroups {ad : Nat → Nat} {ca : Nat → ClassId} {σ : ed_S} {i : Nat} (h : i < 1) : (md_w ad ca σ)[pMgroups i]? = some (ad (pMgroups i), cMgroups ad ca σ i) := by rw [md_w_at (md_lt_Mgroups h), md_ct_Mgroups h]
theorem md_ct_Malive {ad : Nat → Nat} {ca : Nat → ClassId} {σ : ed_S} {i : Nat} (h : i < 1) : md_ct ad ca σ (pMalive i) = cMalive ad ca σ i := by
  rcases (show i = 0 by omega) with rfl
  rfl
theorem md_lt_Malive {i : Nat} (_h : i < 1) : pMalive i < 43 := by unfold pMalive; omega
theorem md_w_Malive {ad : Nat → Nat} {ca : Nat → ClassId} {σ : ed_S} {i : Nat} (h : i < 1) : (md_w ad ca σ)[pMalive i]? = some (ad (pMalive i), cMalive ad ca σ i) := by rw [md_w_at (md_lt_Malive h), md_ct_Malive h]
theorem md_ct_Mhad {ad : Nat → Nat} {ca : Nat → ClassId} {σ : ed_S} {i : Nat} (h : i < 1) : md_ct ad ca σ (pMhad i) = cMhad ad ca σ i := by
  rcases (show i = 0 by omega) with rfl
  rfl
theorem md_lt_Mhad {i : Nat} (_h : i < 1) : pMhad i < 43 := by unfold pMhad; omega
theorem md_w_Mhad {ad : Nat → Nat} {ca : Nat → ClassId} {σ : ed_S} {i : Nat} (h : i < 1) : (md_w ad ca σ)[pMhad i]? = some (ad (pMhad i), cMhad ad ca σ i) := by rw [md_w_at (md_lt_Mhad h), md_ct_Mhad h]
theorem md_ct_MhandleObject {ad : Nat → Nat} {ca : Nat → ClassId} {σ : ed_S} {i : Nat} (h : i < 1) : md_ct ad ca σ (pMhandleObject i) = cMhandleObject ad ca σ i := by
  rcases (show i = 0 by omega) with rfl
  rfl
theorem md_lt_MhandleObject {i : Nat} (_h : i < 1) : pMhandleObject i < 43 := by unfold pMhandleObject; omega
theorem md_w_MhandleObject {ad : Nat → Nat} {ca : Nat → ClassId} {σ : ed_S} {i : Nat} (h : i < 1) : (md_w ad ca σ)[pMhandleObject i]? = some (ad (pMhandleObject i), cMhandleObject ad ca σ i) := by rw [md_w_at (md_lt_MhandleObject h), md_ct_MhandleObject h]
theorem md_ct_MhandleRights {ad : Nat → Nat} {ca : Nat → ClassId} {σ : ed_S} {i : Nat} (h : i < 1) : md_ct ad ca σ (pMhandleRights i) = cMhandleRights ad ca σ i := by
  rcases (show i = 0 by omega) with rfl
  rfl
theorem md_lt_MhandleRights {i : Nat} (_h : i < 1) : pMhandleRights i < 43 := by unfold pMhandleRights; omega
theorem md_w_MhandleRights {ad : Nat → Nat} {ca : Nat → ClassId} {σ : ed_S} {i : Nat} (h : i < 1) : (md_w ad ca σ)[pMhandleRights i]? = some (ad (pMhandleRights i), cMhandleRights ad ca σ i) := by rw [md_w_at (md_lt_MhandleRights h), md_ct_MhandleRights h]
theorem md_ct_Mhome {ad : Nat → Nat} {ca : Nat → ClassId} {σ : ed_S} {i : Nat} (h : i < 1) : md_ct ad ca σ (pMhome i) = cMhome ad ca σ i := by
  rcases (show i = 0 by omega) with rfl
  rfl
theorem md_lt_Mhome {i : Nat} (_h : i < 1) : pMhome i < 43 := by unfold pMhome; omega
theorem md_w_Mhome {ad : Nat → Nat} {ca : Nat → ClassId} {σ : ed_S} {i : Nat} (h : i < 1) : (md_w ad ca σ)[pMhome i]? = some (ad (pMhome i), cMhome ad ca σ i) := by rw [md_w_at (md_lt_Mhome h), md_ct_Mhome h]
theorem md_ct_Mpriority {ad : Nat → Nat} {ca : Nat → ClassId} {σ : ed_S} {i : Nat} (h : i < 1) : md_ct ad ca σ (pMpriority i) = cMpriority ad ca σ i := by
  rcases (show i = 0 by omega) with rfl
  rfl
theorem md_lt_Mpriority {i : Nat} (_h : i < 1) : pMpriority i < 43 := by unfold pMpriority; omega
theorem md_w_Mpriority {ad : Nat → Nat} {ca : Nat → ClassId} {σ : ed_S} {i : Nat} (h : i < 1) : (md_w ad ca σ)[pMpriority i]? = some (ad (pMpriority i), cMpriority ad ca σ i) := by rw [md_w_at (md_lt_Mpriority h), md_ct_Mpriority h]
theorem md_ct_Mstate {ad : Nat → Nat} {ca : Nat → ClassId} {σ : ed_S} {i : Nat} (h : i < 1) : md_ct ad ca σ (pMstate i) = cMstate ad ca σ i := by
  rcases (show i = 0 by omega) with rfl
  rfl
theorem md_lt_Mstate {i : Nat} (_h : i < 1) : pMstate i < 43 := by unfold pMstate; omega
theorem md_w_Mstate {ad : Nat → Nat} {ca : Nat → ClassId} {σ : ed_S} {i : Nat} (h : i < 1) : (md_w ad ca σ)[pMstate i]? = some (ad (pMstate i), cMstate ad ca σ i) := by rw [md_w_at (md_lt_Mstate h), md_ct_Mstate h]
theorem md_ct_Mresult {ad : Nat → Nat} {ca : Nat → ClassId} {σ : ed_S} {i : Nat} (h : i < 1) : md_ct ad ca σ (pMresult i) = cMresult ad ca σ i := by
  rcases (show i = 0 by omega) with rfl
  rfl
theorem md_lt_Mresult {i : Nat} (_h : i < 1) : pMresult i < 43 := by unfold pMresult; omega
theorem md_w_Mresult {ad : Nat → Nat} {ca : Nat → ClassId} {σ : ed_S} {i : Nat} (h : i < 1) : (md_w ad ca σ)[pMresult i]? = some (ad (pMresult i), cMresult ad ca σ i) := by rw [md_w_at (md_lt_Mresult h), md_ct_Mresult h]
theorem md_ct_Mcalls {ad : Nat → Nat} {ca : Nat → ClassId} {σ : ed_S} {i : Nat} (h : i < 1) : md_ct ad ca σ (pMcalls i) = cMcalls ad ca σ i := by
  rcases (show i = 0 by omega) with rfl
  rfl
theorem md_lt_Mcalls {i : Nat} (_h : i < 1) : pMcalls i < 43 := by unfold pMcalls; omega
theorem md_w_Mcalls {ad : Nat → Nat} {ca : Nat → ClassId} {σ : ed_S} {i : Nat} (h : i < 1) : (md_w ad ca σ)[pMcalls i]? = some (ad (pMcalls i), cMcalls ad ca σ i) := by rw [md_w_at (md_lt_Mcalls h), md_ct_Mcalls h]
theorem md_ct_Mdelivered {ad : Nat → Nat} {ca : Nat → ClassId} {σ : ed_S} {i : Nat} (h : i < 1) : md_ct ad ca σ (pMdelivered i) = cMdelivered ad ca σ i := by
  rcases (show i = 0 by omega) with rfl
  rfl
theorem md_lt_Mdelivered {i : Nat} (_h : i < 1) : pMdelivered i < 43 := by unfold pMdelivered; omega
theorem md_w_Mdelivered {ad : Nat → Nat} {ca : Nat → ClassId} {σ : ed_S} {i : Nat} (h : i < 1) : (md_w ad ca σ)[pMdelivered i]? = some (ad (pMdelivered i), cMdelivered ad ca σ i) := by rw [md_w_at (md_lt_Mdelivered h), md_ct_Mdelivered h]
theorem md_ct_Mlatest {ad : Nat → Nat} {ca : Nat → ClassId} {σ : ed_S} {i : Nat} (h : i < 1) : md_ct ad ca σ (pMlatest i) = cMlatest ad ca σ i := by
  rcases (show i = 0 by omega) with rfl
  rfl
theorem md_lt_Mlatest {i : Nat} (_h : i < 1) : pMlatest i < 43 := by unfold pMlatest; omega
theorem md_w_Mlatest {ad : Nat → Nat} {ca : Nat → ClassId} {σ : ed_S} {i : Nat} (h : i < 1) : (md_w ad ca σ)[pMlatest i]? = some (ad (pMlatest i), cMlatest ad ca σ i) := by rw [md_w_at (md_lt_Mlatest h), md_ct_Mlatest h]
theorem md_ct_Mused {ad : Nat → Nat} {ca : Nat → ClassId} {σ : ed_S} {i : Nat} (h : i < 1) : md_ct ad ca σ (pMused i) = cMused ad ca σ i := by
  rcases (show i = 0 by omega) with rfl
  rfl
theorem md_lt_Mused {i : Nat} (_h : i < 1) : pMused i < 43 := by unfold pMused; omega
theorem md_w_Mused {ad : Nat → Nat} {ca : Nat → ClassId} {σ : ed_S} {i : Nat} (h : i < 1) : (md_w ad ca σ)[pMused i]? = some (ad (pMused i), cMused ad ca σ i) := by rw [md_w_at (md_lt_Mused h), md_ct_Mused h]
theorem md_ct_Mdue {ad : Nat → Nat} {ca : Nat → ClassId} {σ : ed_S} {i : Nat} (h : i < 1) : md_ct ad ca σ (pMdue i) = cMdue ad ca σ i := by
  rcases (show i = 0 by omega) with rfl
  rfl
theorem md_lt_Mdue {i : Nat} (_h : i < 1) : pMdue i < 43 := by unfold pMdue; omega
theorem md_w_Mdue {ad : Nat → Nat} {ca : Nat → ClassId} {σ : ed_S} {i : Nat} (h : i < 1) : (md_w ad ca σ)[pMdue i]? = some (ad (pMdue i), cMdue ad ca σ i) := by rw [md_w_at (md_lt_Mdue h), md_ct_Mdue h]
theorem md_ct_Mhow {ad : Nat → Nat} {ca : Nat → ClassId} {σ : ed_S} {i : Nat} (h : i < 1) : md_ct ad ca σ (pMhow i) = cMhow ad ca σ i := by
  rcases (show i = 0 by omega) with rfl
  rfl
theorem md_lt_Mhow {i : Nat} (_h : i < 1) : pMhow i < 43 := by unfold pMhow; omega
theorem md_w_Mhow {ad : Nat → Nat} {ca : Nat → ClassId} {σ : ed_S} {i : Nat} (h : i < 1) : (md_w ad ca σ)[pMhow i]? = some (ad (pMhow i), cMhow ad ca σ i) := by rw [md_w_at (md_lt_Mhow h), md_ct_Mhow h]
theorem md_ct_Mbegan {ad : Nat → Nat} {ca : Nat → ClassId} {σ : ed_S} {i : Nat} (h : i < 1) : md_ct ad ca σ (pMbegan i) = cMbegan ad ca σ i := by
  rcases (show i = 0 by omega) with rfl
  rfl
theorem md_lt_Mbegan {i : Nat} (_h : i < 1) : pMbegan i < 43 := by unfold pMbegan; omega
theorem md_w_Mbegan {ad : Nat → Nat} {ca : Nat → ClassId} {σ : ed_S} {i : Nat} (h : i < 1) : (md_w ad ca σ)[pMbegan i]? = some (ad (pMbegan i), cMbegan ad ca σ i) := by rw [md_w_at (md_lt_Mbegan h), md_ct_Mbegan h]
theorem md_ct_Mstands {ad : Nat → Nat} {ca : Nat → ClassId} {σ : ed_S} {i : Nat} (h : i < 1) : md_ct ad ca σ (pMstands i) = cMstands ad ca σ i := by
  rcases (show i = 0 by omega) with rfl
  rfl
theorem md_lt_Mstands {i : Nat} (_h : i < 1) : pMstands i < 43 := by unfold pMstands; omega
theorem md_w_Mstands {ad : Nat → Nat} {ca : Nat → ClassId} {σ : ed_S} {i : Nat} (h : i < 1) : (md_w ad ca σ)[pMstands i]? = some (ad (pMstands i), cMstands ad ca σ i) := by rw [md_w_at (md_lt_Mstands h), md_ct_Mstands h]
theorem md_ct_Mplace {ad : Nat → Nat} {ca : Nat → ClassId} {σ : ed_S} {i : Nat} (h : i < 1) : md_ct ad ca σ (pMplace i) = cMplace ad ca σ i := by
  rcases (show i = 0 by omega) with rfl
  rfl
theorem md_lt_Mplace {i : Nat} (_h : i < 1) : pMplace i < 43 := by unfold pMplace; omega
theorem md_w_Mplace {ad : Nat → Nat} {ca : Nat → ClassId} {σ : ed_S} {i : Nat} (h : i < 1) : (md_w ad ca σ)[pMplace i]? = some (ad (pMplace i), cMplace ad ca σ i) := by rw [md_w_at (md_lt_Mplace h), md_ct_Mplace h]
theorem md_ct_Mrow {ad : Nat → Nat} {ca : Nat → ClassId} {σ : ed_S} {i : Nat} (h : i < 1) : md_ct ad ca σ (pMrow i) = cMrow ad ca σ i := by
  rcases (show i = 0 by omega) with rfl
  rfl
theorem md_lt_Mrow {i : Nat} (_h : i < 1) : pMrow i < 43 := by unfold pMrow; omega
theorem md_w_Mrow {ad : Nat → Nat} {ca : Nat → ClassId} {σ : ed_S} {i : Nat} (h : i < 1) : (md_w ad ca σ)[pMrow i]? = some (ad (pMrow i), cMrow ad ca σ i) := by rw [md_w_at (md_lt_Mrow h), md_ct_Mrow h]
theorem md_ct_Mthere {ad : Nat → Nat} {ca : Nat → ClassId} {σ : ed_S} {i : Nat} (h : i < 1) : md_ct ad ca σ (pMthere i) = cMthere ad ca σ i := by
  rcases (show i = 0 by omega) with rfl
  rfl
theorem md_lt_Mthere {i : Nat} (_h : i < 1) : pMthere i < 43 := by unfold pMthere; omega
theorem md_w_Mthere {ad : Nat → Nat} {ca : Nat → ClassId} {σ : ed_S} {i : Nat} (h : i < 1) : (md_w ad ca σ)[pMthere i]? = some (ad (pMthere i), cMthere ad ca σ i) := by rw [md_w_at (md_lt_Mthere h), md_ct_Mthere h]
theorem md_ct_MisSet {ad : Nat → Nat} {ca : Nat → ClassId} {σ : ed_S} {i : Nat} (h : i < 1) : md_ct ad ca σ (pMisSet i) = cMisSet ad ca σ i := by
  rcases (show i = 0 by omega) with rfl
  rfl
theorem md_lt_MisSet {i : Nat} (_h : i < 1) : pMisSet i < 43 := by unfold pMisSet; omega
theorem md_w_MisSet {ad : Nat → Nat} {ca : Nat → ClassId} {σ : ed_S} {i : Nat} (h : i < 1) : (md_w ad ca σ)[pMisSet i]? = some (ad (pMisSet i), cMisSet ad ca σ i) := by rw [md_w_at (md_lt_MisSet h), md_ct_MisSet h]
theorem md_ct_Mabandoned {ad : Nat → Nat} {ca : Nat → ClassId} {σ : ed_S} {i : Nat} (h : i < 1) : md_ct ad ca σ (pMabandoned i) = cMabandoned ad ca σ i := by
  rcases (show i = 0 by omega) with rfl
  rfl
theorem md_lt_Mabandoned {i : Nat} (_h : i < 1) : pMabandoned i < 43 := by unfold pMabandoned; omega
theorem md_w_Mabandoned {ad : Nat → Nat} {ca : Nat → ClassId} {σ : ed_S} {i : Nat} (h : i < 1) : (md_w ad ca σ)[pMabandoned i]? = some (ad (pMabandoned i), cMabandoned ad ca σ i) := by rw [md_w_at (md_lt_Mabandoned h), md_ct_Mabandoned h]
theorem md_ct_Mtype {ad : Nat → Nat} {ca : Nat → ClassId} {σ : ed_S} {i : Nat} (h : i < 1) : md_ct ad ca σ (pMtype i) = cMtype ad ca σ i := by
  rcases (show i = 0 by omega) with rfl
  rfl
theorem md_lt_Mtype {i : Nat} (_h : i < 1) : pMtype i < 43 := by unfold pMtype; omega
theorem md_w_Mtype {ad : Nat → Nat} {ca : Nat → ClassId} {σ : ed_S} {i : Nat} (h : i < 1) : (md_w ad ca σ)[pMtype i]? = some (ad (pMtype i), cMtype ad ca σ i) := by rw [md_w_at (md_lt_Mtype h), md_ct_Mtype h]
theorem md_ct_Mname {ad : Nat → Nat} {ca : Nat → ClassId} {σ : ed_S} {i : Nat} (h : i < 1) : md_ct ad ca σ (pMname i) = cMname ad ca σ i := by
  rcases (show i = 0 by omega) with rfl
  rfl
theorem md_lt_Mname {i : Nat} (_h : i < 1) : pMname i < 43 := by unfold pMname; omega
theorem md_w_Mname {ad : Nat → Nat} {ca : Nat → ClassId} {σ : ed_S} {i : Nat} (h : i < 1) : (md_w ad ca σ)[pMname i]? = some (ad (pMname i), cMname ad ca σ i) := by rw [md_w_at (md_lt_Mname h), md_ct_Mname h]
theorem md_ct_Mcount {ad : Nat → Nat} {ca : Nat → ClassId} {σ : ed_S} {i : Nat} (h : i < 1) : md_ct ad ca σ (pMcount i) = cMcount ad ca σ i := by
  rcases (show i = 0 by omega) with rfl
  rfl
theorem md_lt_Mcount {i : Nat} (_h : i < 1) : pMcount i < 43 := by unfold pMcount; omega
theorem md_w_Mcount {ad : Nat → Nat} {ca : Nat → ClassId} {σ : ed_S} {i : Nat} (h : i < 1) : (md_w ad ca σ)[pMcount i]? = some (ad (pMcount i), cMcount ad ca σ i) := by rw [md_w_at (md_lt_Mcount h), md_ct_Mcount h]
theorem md_ct_Mowner {ad : Nat → Nat} {ca : Nat → ClassId} {σ : ed_S} {i : Nat} (h : i < 1) : md_ct ad ca σ (pMowner i) = cMowner ad ca σ i := by
  rcases (show i = 0 by omega) with rfl
  rfl
theorem md_lt_Mowner {i : Nat} (_h : i < 1) : pMowner i < 43 := by unfold pMowner; omega
theorem md_w_Mowner {ad : Nat → Nat} {ca : Nat → ClassId} {σ : ed_S} {i : Nat} (h : i < 1) : (md_w ad ca σ)[pMowner i]? = some (ad (pMowner i), cMowner ad ca σ i) := by rw [md_w_at (md_lt_Mowner h), md_ct_Mowner h]
theorem md_ct_Mtime {ad : Nat → Nat} {ca : Nat → ClassId} {σ : ed_S} {i : Nat} (h : i < 1) : md_ct ad ca σ (pMtime i) = cMtime ad ca σ i := by
  rcases (show i = 0 by omega) with rfl
  rfl
theorem md_lt_Mtime {i : Nat} (_h : i < 1) : pMtime i < 43 := by unfold pMtime; omega
theorem md_w_Mtime {ad : Nat → Nat} {ca : Nat → ClassId} {σ : ed_S} {i : Nat} (h : i < 1) : (md_w ad ca σ)[pMtime i]? = some (ad (pMtime i), cMtime ad ca σ i) := by rw [md_w_at (md_lt_Mtime h), md_ct_Mtime h]
theorem md_ct_Mrules {ad : Nat → Nat} {ca : Nat → ClassId} {σ : ed_S} {i : Nat} (h : i < 1) : md_ct ad ca σ (pMrules i) = cMrules ad ca σ i := by
  rcases (show i = 0 by omega) with rfl
  rfl
theorem md_lt_Mrules {i : Nat} (_h : i < 1) : pMrules i < 43 := by unfold pMrules; omega
theorem md_w_Mrules {ad : Nat → Nat} {ca : Nat → ClassId} {σ : ed_S} {i : Nat} (h : i < 1) : (md_w ad ca σ)[pMrules i]? = some (ad (pMrules i), cMrules ad ca σ i) := by rw [md_w_at (md_lt_Mrules h), md_ct_Mrules h]
theorem md_ct_MruleKind {ad : Nat → Nat} {ca : Nat → ClassId} {σ : ed_S} {i : Nat} (h : i < 1) : md_ct ad ca σ (pMruleKind i) = cMruleKind ad ca σ i := by
  rcases (show i = 0 by omega) with rfl
  rfl
theorem md_lt_MruleKind {i : Nat} (_h : i < 1) : pMruleKind i < 43 := by unfold pMruleKind; omega
theorem md_w_MruleKind {ad : Nat → Nat} {ca : Nat → ClassId} {σ : ed_S} {i : Nat} (h : i < 1) : (md_w ad ca σ)[pMruleKind i]? = some (ad (pMruleKind i), cMruleKind ad ca σ i) := by rw [md_w_at (md_lt_MruleKind h), md_ct_MruleKind h]
theorem md_ct_MruleGroup {ad : Nat → Nat} {ca : Nat → ClassId} {σ : ed_S} {i : Nat} (h : i < 1) : md_ct ad ca σ (pMruleGroup i) = cMruleGroup ad ca σ i := by
  rcases (show i = 0 by omega) with rfl
  rfl
theorem md_lt_MruleGroup {i : Nat} (_h : i < 1) : pMruleGroup i < 43 := by unfold pMruleGroup; omega
theorem md_w_MruleGroup {ad : Nat → Nat} {ca : Nat → ClassId} {σ : ed_S} {i : Nat} (h : i < 1) : (md_w ad ca σ)[pMruleGroup i]? = some (ad (pMruleGroup i), cMruleGroup ad ca σ i) := by rw [md_w_at (md_lt_MruleGroup h), md_ct_MruleGroup h]
theorem md_ct_MruleRights {ad : Nat → Nat} {ca : Nat → ClassId} {σ : ed_S} {i : Nat} (h : i < 1) : md_ct ad ca σ (pMruleRights i) = cMruleRights ad ca σ i := by
  rcases (show i = 0 by omega) with rfl
  rfl
theorem md_lt_MruleRights {i : Nat} (_h : i < 1) : pMruleRights i < 43 := by unfold pMruleRights; omega
theorem md_w_MruleRights {ad : Nat → Nat} {ca : Nat → ClassId} {σ : ed_S} {i : Nat} (h : i < 1) : (md_w ad ca σ)[pMruleRights i]? = some (ad (pMruleRights i), cMruleRights ad ca σ i) := by rw [md_w_at (md_lt_MruleRights h), md_ct_MruleRights h]
theorem md_ct_MtState {ad : Nat → Nat} {ca : Nat → ClassId} {σ : ed_S} {i : Nat} (h : i < 1) : md_ct ad ca σ (pMtState i) = cMtState ad ca σ i := by
  rcases (show i = 0 by omega) with rfl
  rfl
theorem md_lt_MtState {i : Nat} (_h : i < 1) : pMtState i < 43 := by unfold pMtState; omega
theorem md_w_MtState {ad : Nat → Nat} {ca : Nat → ClassId} {σ : ed_S} {i : Nat} (h : i < 1) : (md_w ad ca σ)[pMtState i]? = some (ad (pMtState i), cMtState ad ca σ i) := by rw [md_w_at (md_lt_MtState h), md_ct_MtState h]
theorem md_ct_MtAmount {ad : Nat → Nat} {ca : Nat → ClassId} {σ : ed_S} {i : Nat} (h : i < 1) : md_ct ad ca σ (pMtAmount i) = cMtAmount ad ca σ i := by
  rcases (show i = 0 by omega) with rfl
  rfl
theorem md_lt_MtAmount {i : Nat} (_h : i < 1) : pMtAmount i < 43 := by unfold pMtAmount; omega
theorem md_w_MtAmount {ad : Nat → Nat} {ca : Nat → ClassId} {σ : ed_S} {i : Nat} (h : i < 1) : (md_w ad ca σ)[pMtAmount i]? = some (ad (pMtAmount i), cMtAmount ad ca σ i) := by rw [md_w_at (md_lt_MtAmount h), md_ct_MtAmount h]
theorem md_ct_MtThread {ad : Nat → Nat} {ca : Nat → ClassId} {σ : ed_S} {i : Nat} (h : i < 1) : md_ct ad ca σ (pMtThread i) = cMtThread ad ca σ i := by
  rcases (show i = 0 by omega) with rfl
  rfl
theorem md_lt_MtThread {i : Nat} (_h : i < 1) : pMtThread i < 43 := by unfold pMtThread; omega
theorem md_w_MtThread {ad : Nat → Nat} {ca : Nat → ClassId} {σ : ed_S} {i : Nat} (h : i < 1) : (md_w ad ca σ)[pMtThread i]? = some (ad (pMtThread i), cMtThread ad ca σ i) := by rw [md_w_at (md_lt_MtThread h), md_ct_MtThread h]
theorem md_ct_MtDevice {ad : Nat → Nat} {ca : Nat → ClassId} {σ : ed_S} {i : Nat} (h : i < 1) : md_ct ad ca σ (pMtDevice i) = cMtDevice ad ca σ i := by
  rcases (show i = 0 by omega) with rfl
  rfl
theorem md_lt_MtDevice {i : Nat} (_h : i < 1) : pMtDevice i < 43 := by unfold pMtDevice; omega
theorem md_w_MtDevice {ad : Nat → Nat} {ca : Nat → ClassId} {σ : ed_S} {i : Nat} (h : i < 1) : (md_w ad ca σ)[pMtDevice i]? = some (ad (pMtDevice i), cMtDevice ad ca σ i) := by rw [md_w_at (md_lt_MtDevice h), md_ct_MtDevice h]
theorem md_ct_MtLength {ad : Nat → Nat} {ca : Nat → ClassId} {σ : ed_S} {i : Nat} (h : i < 1) : md_ct ad ca σ (pMtLength i) = cMtLength ad ca σ i := by
  rcases (show i = 0 by omega) with rfl
  rfl
theorem md_lt_MtLength {i : Nat} (_h : i < 1) : pMtLength i < 43 := by unfold pMtLength; omega
theorem md_w_MtLength {ad : Nat → Nat} {ca : Nat → ClassId} {σ : ed_S} {i : Nat} (h : i < 1) : (md_w ad ca σ)[pMtLength i]? = some (ad (pMtLength i), cMtLength ad ca σ i) := by rw [md_w_at (md_lt_MtLength h), md_ct_MtLength h]
theorem md_ct_MtSets {ad : Nat → Nat} {ca : Nat → ClassId} {σ : ed_S} {i : Nat} (h : i < 1) : md_ct ad ca σ (pMtSets i) = cMtSets ad ca σ i := by
  rcases (show i = 0 by omega) with rfl
  rfl
theorem md_lt_MtSets {i : Nat} (_h : i < 1) : pMtSets i < 43 := by unfold pMtSets; omega
theorem md_w_MtSets {ad : Nat → Nat} {ca : Nat → ClassId} {σ : ed_S} {i : Nat} (h : i < 1) : (md_w ad ca σ)[pMtSets i]? = some (ad (pMtSets i), cMtSets ad ca σ i) := by rw [md_w_at (md_lt_MtSets h), md_ct_MtSets h]
theorem md_ct_MtOrder {ad : Nat → Nat} {ca : Nat → ClassId} {σ : ed_S} {i : Nat} (h : i < 1) : md_ct ad ca σ (pMtOrder i) = cMtOrder ad ca σ i := by
  rcases (show i = 0 by omega) with rfl
  rfl
theorem md_lt_MtOrder {i : Nat} (_h : i < 1) : pMtOrder i < 43 := by unfold pMtOrder; omega
theorem md_w_MtOrder {ad : Nat → Nat} {ca : Nat → ClassId} {σ : ed_S} {i : Nat} (h : i < 1) : (md_w ad ca σ)[pMtOrder i]? = some (ad (pMtOrder i), cMtOrder ad ca σ i) := by rw [md_w_at (md_lt_MtOrder h), md_ct_MtOrder h]
theorem md_ct_MtCancel {ad : Nat → Nat} {ca : Nat → ClassId} {σ : ed_S} {i : Nat} (h : i < 1) : md_ct ad ca σ (pMtCancel i) = cMtCancel ad ca σ i := by
  rcases (show i = 0 by omega) with rfl
  rfl
theorem md_lt_MtCancel {i : Nat} (_h : i < 1) : pMtCancel i < 43 := by unfold pMtCancel; omega
theorem md_w_MtCancel {ad : Nat → Nat} {ca : Nat → ClassId} {σ : ed_S} {i : Nat} (h : i < 1) : (md_w ad ca σ)[pMtCancel i]? = some (ad (pMtCancel i), cMtCancel ad ca σ i) := by rw [md_w_at (md_lt_MtCancel h), md_ct_MtCancel h]
theorem md_ct_MtAgain {ad : Nat → Nat} {ca : Nat → ClassId} {σ : ed_S} {i : Nat} (h : i < 1) : md_ct ad ca σ (pMtAgain i) = cMtAgain ad ca σ i := by
  rcases (show i = 0 by omega) with rfl
  rfl
theorem md_lt_MtAgain {i : Nat} (_h : i < 1) : pMtAgain i < 43 := by unfold pMtAgain; omega
theorem md_w_MtAgain {ad : Nat → Nat} {ca : Nat → ClassId} {σ : ed_S} {i : Nat} (h : i < 1) : (md_w ad ca σ)[pMtAgain i]? = some (ad (pMtAgain i), cMtAgain ad ca σ i) := by rw [md_w_at (md_lt_MtAgain h), md_ct_MtAgain h]
theorem md_ct_Mwaiting {ad : Nat → Nat} {ca : Nat → ClassId} {σ : ed_S} {i : Nat} (h : i < 1) : md_ct ad ca σ (pMwaiting i) = cMwaiting ad ca σ i := by
  rcases (show i = 0 by omega) with rfl
  rfl
theorem md_lt_Mwaiting {i : Nat} (_h : i < 1) : pMwaiting i < 43 := by unfold pMwaiting; omega
theorem md_w_Mwaiting {ad : Nat → Nat} {ca : Nat → ClassId} {σ : ed_S} {i : Nat} (h : i < 1) : (md_w ad ca σ)[pMwaiting i]? = some (ad (pMwaiting i), cMwaiting ad ca σ i) := by rw [md_w_at (md_lt_Mwaiting h), md_ct_Mwaiting h]
theorem md_ct_MwaitingWell {ad : Nat → Nat} {ca : Nat → ClassId} {σ : ed_S} {i : Nat} (h : i < 1) : md_ct ad ca σ (pMwaitingWell i) = cMwaitingWell ad ca σ i := by
  rcases (show i = 0 by omega) with rfl
  rfl
theorem md_lt_MwaitingWell {i : Nat} (_h : i < 1) : pMwaitingWell i < 43 := by unfold pMwaitingWell; omega
theorem md_w_MwaitingWell {ad : Nat → Nat} {ca : Nat → ClassId} {σ : ed_S} {i : Nat} (h : i < 1) : (md_w ad ca σ)[pMwaitingWell i]? = some (ad (pMwaitingWell i), cMwaitingWell ad ca σ i) := by rw [md_w_at (md_lt_MwaitingWell h), md_ct_MwaitingWell h]
