def pDesk (_ : Nat) : Nat := 0
def pSched (_ : Nat) : Nat := 2
def pThr (i : Nat) : Nat := 5 + 4 * i
def pProc (i : Nat) : Nat := 59 + 3 * i
def pObj (i : Nat) : Nat := 71 + 7 * i
def pRul (i : Nat) : Nat := 72 + 7 * i
def pTra (i : Nat) : Nat := 183 + i
def pPlc (i : Nat) : Nat := 8 + 4 * i
def pPHo (i : Nat) : Nat := 60 + 3 * i
def pPRi (i : Nat) : Nat := 61 + 3 * i
def pRKi (i : Nat) : Nat := 73 + 7 * i
def pRGr (i : Nat) : Nat := 74 + 7 * i
def pRRi (i : Nat) : Nat := 75 + 7 * i
def pAProc (_ : Nat) : Nat := 1
def pAThr (_ : Nat) : Nat := 3
def pARdy (_ : Nat) : Nat := 4
def pAObj (_ : Nat) : Nat := 53
def pATra (_ : Nat) : Nat := 54
def pRow (r : Nat) : Nat := if r < 8 then 6 + 4 * r else if r < 16 then 37 + 2 * (r - 8) else if r < 32 then 76 + 7 * (r - 16) else if r = 32 then 55 else 57
def pItm (r : Nat) : Nat := pRow r + 1
def ed_cap (r : Nat) : Nat := if r < 8 then 4 else 8
theorem ed_b0 {i : Nat} (h : i < 8) : i < 34 := by omega
theorem ed_b8 {i : Nat} (h : i < 8) : 8 + i < 34 := by omega
theorem ed_b16 {i : Nat} (h : i < 16) : 16 + i < 34 := by omega
abbrev cDesk (ad : Nat → Nat) (ca : Nat → ClassId) (σ : ed_S) (i : Nat) : va_E := .inr (7, [.ref (ad (pAProc 0)), .ref (ad (pSched 0)), .ref (ad (pAThr 0)), .ref (ad (pAObj 0)), .ref (ad (pATra 0)), .ref (ad (pRow 32)), .ref (ad (pRow 33)), .int (σ 0 i 0), .int (σ 1 i 0), .int (σ 2 i 0), .int (σ 3 i 0), .int (σ 4 i 0)])
abbrev cSched (ad : Nat → Nat) (ca : Nat → ClassId) (σ : ed_S) (i : Nat) : va_E := .inr (4, [.ref (ad (pAThr 0)), .ref (ad (pARdy 0)), .int (σ 5 i 0), .int (σ 6 i 0), .int (σ 7 i 0)])
abbrev cThr (ad : Nat → Nat) (ca : Nat → ClassId) (σ : ed_S) (i : Nat) : va_E := .inr (5, [.ref (ad (pRow i)), .ref (ad (pPlc i)), .int (σ 8 i 0), .int (σ 9 i 0), .int (σ 10 i 0), .int (σ 11 i 0), .int (σ 12 i 0), .int (σ 13 i 0), .int (σ 14 i 0), .int (σ 15 i 0), .int (σ 16 i 0), .int (σ 17 i 0)])
abbrev cRow (ad : Nat → Nat) (ca : Nat → ClassId) (σ : ed_S) (i : Nat) : va_E := .inr (2, [.ref (ad (pItm i)), .int (σ 18 i 0)])
abbrev cProc (ad : Nat → Nat) (ca : Nat → ClassId) (σ : ed_S) (i : Nat) : va_E := .inr (1, [.ref (ad (pPHo i)), .ref (ad (pPRi i)), .int (σ 19 i 0), .int (σ 20 i 0), .int (σ 21 i 0)])
abbrev cObj (ad : Nat → Nat) (ca : Nat → ClassId) (σ : ed_S) (i : Nat) : va_E := .inr (0, [.ref (ad (pRul i)), .ref (ad (pRow (16 + i))), .int (σ 22 i 0), .int (σ 23 i 0), .int (σ 24 i 0), .int (σ 25 i 0), .int (σ 26 i 0), .int (σ 27 i 0), .int (σ 28 i 0), .int (σ 29 i 0)])
abbrev cRul (ad : Nat → Nat) (ca : Nat → ClassId) (σ : ed_S) (i : Nat) : va_E := .inr (3, [.ref (ad (pRKi i)), .ref (ad (pRGr i)), .ref (ad (pRRi i)), .int (σ 30 i 0)])
abbrev cTra (ad : Nat → Nat) (ca : Nat → ClassId) (σ : ed_S) (i : Nat) : va_E := .inr (6, [.int (σ 31 i 0), .int (σ 32 i 0), .int (σ 33 i 0), .int (σ 34 i 0), .int (σ 35 i 0), .int (σ 36 i 0), .int (σ 37 i 0), .int (σ 38 i 0)])
abbrev cItm (ad : Nat → Nat) (ca : Nat → ClassId) (σ : ed_S) (i : Nat) : va_E := .inl (ca 0, (ed_cap i), .inl (fun j => σ 39 i j))
abbrev cPlc (ad : Nat → Nat) (ca : Nat → ClassId) (σ : ed_S) (i : Nat) : va_E := .inl (ca 0, 3, .inl (fun j => σ 40 i j))
abbrev cPHo (ad : Nat → Nat) (ca : Nat → ClassId) (σ : ed_S) (i : Nat) : va_E := .inl (ca 0, 8, .inl (fun j => σ 41 i j))
abbrev cPRi (ad : Nat → Nat) (ca : Nat → ClassId) (σ : ed_S) (i : Nat) : va_E := .inl (ca 0, 8, .inl (fun j => σ 42 i j))
abbrev cRKi (ad : Nat → Nat) (ca : Nat → ClassId) (σ : ed_S) (i : Nat) : va_E := .inl (ca 0, 4, .inl (fun j => σ 43 i j))
abbrev cRGr (ad : Nat → Nat) (ca : Nat → ClassId) (σ : ed_S) (i : Nat) : va_E := .inl (ca 0, 4, .inl (fun j => σ 44 i j))
abbrev cRRi (ad : Nat → Nat) (ca : Nat → ClassId) (σ : ed_S) (i : Nat) : va_E := .inl (ca 0, 4, .inl (fun j => σ 45 i j))
abbrev cAProc (ad : Nat → Nat) (ca : Nat → ClassId) (σ : ed_S) (i : Nat) : va_E := .inl (ca 1, 4, .inr (.inr (.inr (.inr (fun j => if j < 4 then some (ad (pProc j)) else none)))))
abbrev cAThr (ad : Nat → Nat) (ca : Nat → ClassId) (σ : ed_S) (i : Nat) : va_E := .inl (ca 2, 8, .inr (.inr (.inr (.inr (fun j => if j < 8 then some (ad (pThr j)) else none)))))
abbrev cARdy (ad : Nat → Nat) (ca : Nat → ClassId) (σ : ed_S) (i : Nat) : va_E := .inl (ca 3, 8, .inr (.inr (.inr (.inr (fun j => if j < 8 then some (ad (pRow (8 + j))) else none)))))
abbrev cAObj (ad : Nat → Nat) (ca : Nat → ClassId) (σ : ed_S) (i : Nat) : va_E := .inl (ca 4, 16, .inr (.inr (.inr (.inr (fun j => if j < 16 then some (ad (pObj j)) else none)))))
abbrev cATra (ad : Nat → Nat) (ca : Nat → ClassId) (σ : ed_S) (i : Nat) : va_E := .inl (ca 5, 8, .inr (.inr (.inr (.inr (fun j => if j < 8 then some (ad (pTra j)) else none)))))
def ed_ct (ad : Nat → Nat) (ca : Nat → ClassId) (σ : ed_S) (q : Nat) : va_E := if q < 5 then (if q = 0 then cDesk ad ca σ 0 else (if q = 1 then cAProc ad ca σ 0 else (if q = 2 then cSched ad ca σ 0 else (if q = 3 then cAThr ad ca σ 0 else cARdy ad ca σ 0)))) else if q < 37 then (if (q - 5) % 4 = 0 then cThr ad ca σ ((q - 5) / 4) else (if (q - 5) % 4 = 1 then cRow ad ca σ ((q - 5) / 4) else (if (q - 5) % 4 = 2 then cItm ad ca σ ((q - 5) / 4) else cPlc ad ca σ ((q - 5) / 4)))) else if q < 53 then (if (q - 37) % 2 = 0 then cRow ad ca σ (8 + (q - 37) / 2) else cItm ad ca σ (8 + (q - 37) / 2)) else if q < 59 then (if q = 53 then cAObj ad ca σ 0 else (if q = 54 then cATra ad ca σ 0 else (if q = 55 then cRow ad ca σ 32 else (if q = 56 then cItm ad ca σ 32 else (if q = 57 then cRow ad ca σ 33 else cItm ad ca σ 33))))) else if q < 71 then (if (q - 59) % 3 = 0 then cProc ad ca σ ((q - 59) / 3) else (if (q - 59) % 3 = 1 then cPHo ad ca σ ((q - 59) / 3) else cPRi ad ca σ ((q - 59) / 3))) else if q < 183 then (if (q - 71) % 7 = 0 then cObj ad ca σ ((q - 71) / 7) else (if (q - 71) % 7 = 1 then cRul ad ca σ ((q - 71) / 7) else (if (q - 71) % 7 = 2 then cRKi ad ca σ ((q - 71) / 7) else (if (q - 71) % 7 = 3 then cRGr ad ca σ ((q - 71) / 7) else (if (q - 71) % 7 = 4 then cRRi ad ca σ ((q - 71) / 7) else (if (q - 71) % 7 = 5 then cRow ad ca σ (16 + (q - 71) / 7) else cItm ad ca σ (16 + (q - 71) / 7))))))) else cTra ad ca σ (q - 183)
def ed_ow : Nat → Nat → Nat
  | 0, i => pDesk i
  | 1, i => pDesk i
  | 2, i => pDesk i
  | 3, i => pDesk i
  | 4, i => pDesk i
  | 5, i => pSched i
  | 6, i => pSched i
  | 7, i => pSched i
  | 8, i => pThr i
  | 9, i => pThr i
  | 10, i => pThr i
  | 11, i => pThr i
  | 12, i => pThr i
  | 13, i => pThr i
  | 14, i => pThr i
  | 15, i => pThr i
  | 16, i => pThr i
  | 17, i => pThr i
  | 18, i => pRow i
  | 19, i => pProc i
  | 20, i => pProc i
  | 21, i => pProc i
  | 22, i => pObj i
  | 23, i => pObj i
  | 24, i => pObj i
  | 25, i => pObj i
  | 26, i => pObj i
  | 27, i => pObj i
  | 28, i => pObj i
  | 29, i => pObj i
  | 30, i => pRul i
  | 31, i => pTra i
  | 32, i => pTra i
  | 33, i => pTra i
  | 34, i => pTra i
  | 35, i => pTra i
  | 36, i => pTra i
  | 37, i => pTra i
  | 38, i => pTra i
  | 39, i => pItm i
  | 40, i => pPlc i
  | 41, i => pPHo i
  | 42, i => pPRi i
  | 43, i => pRKi i
  | 44, i => pRGr i
  | 45, i => pRRi i
  | _, _ => 1000
def ed_w (ad : Nat → Nat) (ca : Nat → ClassId) (σ : ed_S) : va_W := (List.range 191).map (fun q => (ad q, ed_ct ad ca σ q))
theorem ed_w_at {ad : Nat → Nat} {ca : Nat → ClassId} {σ : ed_S} {q : Nat} (h : q < 191) : (ed_w ad ca σ)[q]? = some (ad q, ed_ct ad ca σ q) := by simp [ed_w, h]
theorem ed_w_set {ad : Nat → Nat} {ca : Nat → ClassId} {σ σ2 : ed_S} {q : Nat} {x : va_E} (hq : q < 191) (hx : ed_ct ad ca σ2 q = x) (hn : ∀ z, z ≠ q → ed_ct ad ca σ2 z = ed_ct ad ca σ z) : (ed_w ad ca σ).set q (ad q, x) = ed_w ad ca σ2 := by
  apply List.ext_getElem?
  intro k
  by_cases hk : k = q
  · subst hk
    rw [List.getElem?_set_self (by simp [ed_w, hq]), ed_w_at hq, hx]
  · rw [List.getElem?_set_ne (Ne.symm hk)]
    by_cases hl : k < 191
    · rw [ed_w_at hl, ed_w_at hl, hn k hk]
    · rw [List.getElem?_eq_none (by simp [ed_w]; omega), List.getElem?_eq_none (by simp [ed_w]; omega)]
set_option maxHeartbeats 4000000 in
theorem ed_ct_congr {ad : Nat → Nat} {ca : Nat → ClassId} {σ σ2 : ed_S} {q : Nat} (h : ∀ k i j, ed_ow k i = q → σ k i j = σ2 k i j) : ed_ct ad ca σ q = ed_ct ad ca σ2 q := by
  unfold ed_ct
  by_cases b5 : q < 5
  · rw [if_pos b5, if_pos b5]
    by_cases a0 : q = 0
    · rw [if_pos a0, if_pos a0]
      unfold cDesk; rw [h 0 0 0 (by show pDesk 0 = q; unfold pDesk; omega), h 1 0 0 (by show pDesk 0 = q; unfold pDesk; omega), h 2 0 0 (by show pDesk 0 = q; unfold pDesk; omega), h 3 0 0 (by show pDesk 0 = q; unfold pDesk; omega), h 4 0 0 (by show pDesk 0 = q; unfold pDesk; omega)]
    rw [if_neg a0, if_neg a0]
    by_cases a1 : q = 1
    · rw [if_pos a1, if_pos a1]
      try rfl
    rw [if_neg a1, if_neg a1]
    by_cases a2 : q = 2
    · rw [if_pos a2, if_pos a2]
      unfold cSched; rw [h 5 0 0 (by show pSched 0 = q; unfold pSched; omega), h 6 0 0 (by show pSched 0 = q; unfold pSched; omega), h 7 0 0 (by show pSched 0 = q; unfold pSched; omega)]
    rw [if_neg a2, if_neg a2]
  rw [if_neg b5, if_neg b5]
  by_cases b37 : q < 37
  · rw [if_pos b37, if_pos b37]
    by_cases a0 : (q - 5) % 4 = 0
    · rw [if_pos a0, if_pos a0]
      unfold cThr; rw [h 8 ((q - 5) / 4) 0 (by show pThr ((q - 5) / 4) = q; unfold pThr; omega), h 9 ((q - 5) / 4) 0 (by show pThr ((q - 5) / 4) = q; unfold pThr; omega), h 10 ((q - 5) / 4) 0 (by show pThr ((q - 5) / 4) = q; unfold pThr; omega), h 11 ((q - 5) / 4) 0 (by show pThr ((q - 5) / 4) = q; unfold pThr; omega), h 12 ((q - 5) / 4) 0 (by show pThr ((q - 5) / 4) = q; unfold pThr; omega), h 13 ((q - 5) / 4) 0 (by show pThr ((q - 5) / 4) = q; unfold pThr; omega), h 14 ((q - 5) / 4) 0 (by show pThr ((q - 5) / 4) = q; unfold pThr; omega), h 15 ((q - 5) / 4) 0 (by show pThr ((q - 5) / 4) = q; unfold pThr; omega), h 16 ((q - 5) / 4) 0 (by show pThr ((q - 5) / 4) = q; unfold pThr; omega), h 17 ((q - 5) / 4) 0 (by show pThr ((q - 5) / 4) = q; unfold pThr; omega)]
    rw [if_neg a0, if_neg a0]
    by_cases a1 : (q - 5) % 4 = 1
    · rw [if_pos a1, if_pos a1]
      unfold cRow; rw [h 18 ((q - 5) / 4) 0 (by show pRow ((q - 5) / 4) = q; unfold pRow; (repeat' split) <;> omega)]
    rw [if_neg a1, if_neg a1]
    by_cases a2 : (q - 5) % 4 = 2
    · rw [if_pos a2, if_pos a2]
      unfold cItm; rw [show (fun j => σ 39 ((q - 5) / 4) j) = (fun j => σ2 39 ((q - 5) / 4) j) from funext fun j => h 39 ((q - 5) / 4) j (by show pItm ((q - 5) / 4) = q; unfold pItm pRow; (repeat' split) <;> omega)]
    rw [if_neg a2, if_neg a2]
    unfold cPlc; rw [show (fun j => σ 40 ((q - 5) / 4) j) = (fun j => σ2 40 ((q - 5) / 4) j) from funext fun j => h 40 ((q - 5) / 4) j (by show pPlc ((q - 5) / 4) = q; unfold pPlc; omega)]
  rw [if_neg b37, if_neg b37]
  by_cases b53 : q < 53
  · rw [if_pos b53, if_pos b53]
    by_cases a0 : (q - 37) % 2 = 0
    · rw [if_pos a0, if_pos a0]
      unfold cRow; rw [h 18 (8 + (q - 37) / 2) 0 (by show pRow (8 + (q - 37) / 2) = q; unfold pRow; (repeat' split) <;> omega)]
    rw [if_neg a0, if_neg a0]
    unfold cItm; rw [show (fun j => σ 39 (8 + (q - 37) / 2) j) = (fun j => σ2 39 (8 + (q - 37) / 2) j) from funext fun j => h 39 (8 + (q - 37) / 2) j (by show pItm (8 + (q - 37) / 2) = q; unfold pItm pRow; (repeat' split) <;> omega)]
  rw [if_neg b53, if_neg b53]
  by_cases b59 : q < 59
  · rw [if_pos b59, if_pos b59]
    by_cases a0 : q = 53
    · rw [if_pos a0, if_pos a0]
      try rfl
    rw [if_neg a0, if_neg a0]
    by_cases a1 : q = 54
    · rw [if_pos a1, if_pos a1]
      try rfl
    rw [if_neg a1, if_neg a1]
    by_cases a2 : q = 55
    · rw [if_pos a2, if_pos a2]
      unfold cRow; rw [h 18 32 0 (by show pRow 32 = q; unfold pRow; (repeat' split) <;> omega)]
    rw [if_neg a2, if_neg a2]
    by_cases a3 : q = 56
    · rw [if_pos a3, if_pos a3]
      unfold cItm; rw [show (fun j => σ 39 32 j) = (fun j => σ2 39 32 j) from funext fun j => h 39 32 j (by show pItm 32 = q; unfold pItm pRow; (repeat' split) <;> omega)]
    rw [if_neg a3, if_neg a3]
    by_cases a4 : q = 57
    · rw [if_pos a4, if_pos a4]
      unfold cRow; rw [h 18 33 0 (by show pRow 33 = q; unfold pRow; (repeat' split) <;> omega)]
    rw [if_neg a4, if_neg a4]
    unfold cItm; rw [show (fun j => σ 39 33 j) = (fun j => σ2 39 33 j) from funext fun j => h 39 33 j (by show pItm 33 = q; unfold pItm pRow; (repeat' split) <;> omega)]
  rw [if_neg b59, if_neg b59]
  by_cases b71 : q < 71
  · rw [if_pos b71, if_pos b71]
    by_cases a0 : (q - 59) % 3 = 0
    · rw [if_pos a0, if_pos a0]
      unfold cProc; rw [h 19 ((q - 59) / 3) 0 (by show pProc ((q - 59) / 3) = q; unfold pProc; omega), h 20 ((q - 59) / 3) 0 (by show pProc ((q - 59) / 3) = q; unfold pProc; omega), h 21 ((q - 59) / 3) 0 (by show pProc ((q - 59) / 3) = q; unfold pProc; omega)]
    rw [if_neg a0, if_neg a0]
    by_cases a1 : (q - 59) % 3 = 1
    · rw [if_pos a1, if_pos a1]
      unfold cPHo; rw [show (fun j => σ 41 ((q - 59) / 3) j) = (fun j => σ2 41 ((q - 59) / 3) j) from funext fun j => h 41 ((q - 59) / 3) j (by show pPHo ((q - 59) / 3) = q; unfold pPHo; omega)]
    rw [if_neg a1, if_neg a1]
    unfold cPRi; rw [show (fun j => σ 42 ((q - 59) / 3) j) = (fun j => σ2 42 ((q - 59) / 3) j) from funext fun j => h 42 ((q - 59) / 3) j (by show pPRi ((q - 59) / 3) = q; unfold pPRi; omega)]
  rw [if_neg b71, if_neg b71]
  by_cases b183 : q < 183
  · rw [if_pos b183, if_pos b183]
    by_cases a0 : (q - 71) % 7 = 0
    · rw [if_pos a0, if_pos a0]
      unfold cObj; rw [h 22 ((q - 71) / 7) 0 (by show pObj ((q - 71) / 7) = q; unfold pObj; omega), h 23 ((q - 71) / 7) 0 (by show pObj ((q - 71) / 7) = q; unfold pObj; omega), h 24 ((q - 71) / 7) 0 (by show pObj ((q - 71) / 7) = q; unfold pObj; omega), h 25 ((q - 71) / 7) 0 (by show pObj ((q - 71) / 7) = q; unfold pObj; omega), h 26 ((q - 71) / 7) 0 (by show pObj ((q - 71) / 7) = q; unfold pObj; omega), h 27 ((q - 71) / 7) 0 (by show pObj ((q - 71) / 7) = q; unfold pObj; omega), h 28 ((q - 71) / 7) 0 (by show pObj ((q - 71) / 7) = q; unfold pObj; omega), h 29 ((q - 71) / 7) 0 (by show pObj ((q - 71) / 7) = q; unfold pObj; omega)]
    rw [if_neg a0, if_neg a0]
    by_cases a1 : (q - 71) % 7 = 1
    · rw [if_pos a1, if_pos a1]
      unfold cRul; rw [h 30 ((q - 71) / 7) 0 (by show pRul ((q - 71) / 7) = q; unfold pRul; omega)]
    rw [if_neg a1, if_neg a1]
    by_cases a2 : (q - 71) % 7 = 2
    · rw [if_pos a2, if_pos a2]
      unfold cRKi; rw [show (fun j => σ 43 ((q - 71) / 7) j) = (fun j => σ2 43 ((q - 71) / 7) j) from funext fun j => h 43 ((q - 71) / 7) j (by show pRKi ((q - 71) / 7) = q; unfold pRKi; omega)]
    rw [if_neg a2, if_neg a2]
    by_cases a3 : (q - 71) % 7 = 3
    · rw [if_pos a3, if_pos a3]
      unfold cRGr; rw [show (fun j => σ 44 ((q - 71) / 7) j) = (fun j => σ2 44 ((q - 71) / 7) j) from funext fun j => h 44 ((q - 71) / 7) j (by show pRGr ((q - 71) / 7) = q; unfold pRGr; omega)]
    rw [if_neg a3, if_neg a3]
    by_cases a4 : (q - 71) % 7 = 4
    · rw [if_pos a4, if_pos a4]
      unfold cRRi; rw [show (fun j => σ 45 ((q - 71) / 7) j) = (fun j => σ2 45 ((q - 71) / 7) j) from funext fun j => h 45 ((q - 71) / 7) j (by show pRRi ((q - 71) / 7) = q; unfold pRRi; omega)]
    rw [if_neg a4, if_neg a4]
    by_cases a5 : (q - 71) % 7 = 5
    · rw [if_pos a5, if_pos a5]
      unfold cRow; rw [h 18 (16 + (q - 71) / 7) 0 (by show pRow (16 + (q - 71) / 7) = q; unfold pRow; (repeat' split) <;> omega)]
    rw [if_neg a5, if_neg a5]
    unfold cItm; rw [show (fun j => σ 39 (16 + (q - 71) / 7) j) = (fun j => σ2 39 (16 + (q - 71) / 7) j) from funext fun j => h 39 (16 + (q - 71) / 7) j (by show pItm (16 + (q - 71) / 7) = q; unfold pItm pRow; (repeat' split) <;> omega)]
  rw [if_neg b183, if_neg b183]
  unfold cTra; rw [h 31 (q - 183) 0 (by show pTra (q - 183) = q; unfold pTra; omega), h 32 (q - 183) 0 (by show pTra (q - 183) = q; unfold pTra; omega), h 33 (q - 183) 0 (by show pTra (q - 183) = q; unfold pTra; omega), h 34 (q - 183) 0 (by show pTra (q - 183) = q; unfold pTra; omega), h 35 (q - 183) 0 (by show pTra (q - 183) = q; unfold pTra; omega), h 36 (q - 183) 0 (by show pTra (q - 183) = q; unfold pTra; omega), h 37 (q - 183) 0 (by show pTra (q - 183) = q; unfold pTra; omega), h 38 (q - 183) 0 (by show pTra (q - 183) = q; unfold pTra; omega)]
theorem ed_ct_st {ad : Nat → Nat} {ca : Nat → ClassId} {σ : ed_S} {k i j : Nat} {v : Int32} {z : Nat} (hz : z ≠ ed_ow k i) : ed_ct ad ca (ed_st σ k i j v) z = ed_ct ad ca σ z := by
  refine ed_ct_congr (fun a b d h => ?_)
  unfold ed_st
  rw [if_neg]
  rintro ⟨rfl, rfl, rfl⟩
  exact hz h.symm
theorem ed_ct_Desk {ad : Nat → Nat} {ca : Nat → ClassId} {σ : ed_S} {i : Nat} (h : i < 1) : ed_ct ad ca σ (pDesk i) = cDesk ad ca σ i := by
  rcases (show i = 0 by omega) with rfl
  rfl
theorem ed_ct_Sched {ad : Nat → Nat} {ca : Nat → ClassId} {σ : ed_S} {i : Nat} (h : i < 1) : ed_ct ad ca σ (pSched i) = cSched ad ca σ i := by
  rcases (show i = 0 by omega) with rfl
  rfl
theorem ed_ct_Thr {ad : Nat → Nat} {ca : Nat → ClassId} {σ : ed_S} {i : Nat} (h : i < 8) : ed_ct ad ca σ (pThr i) = cThr ad ca σ i := by
  unfold pThr ed_ct
  rw [if_neg (by omega), if_pos (by omega), if_pos (by omega), show (((5 + 4 * i) - 5) / 4) = i by omega]
theorem ed_ct_Row {ad : Nat → Nat} {ca : Nat → ClassId} {σ : ed_S} {i : Nat} (h : i < 34) : ed_ct ad ca σ (pRow i) = cRow ad ca σ i := by
  unfold pRow
  by_cases a : i < 8
  · rw [if_pos a]
    unfold ed_ct
    rw [if_neg (by omega), if_pos (by omega), if_neg (by omega), if_pos (by omega), show (6 + 4 * i - 5) / 4 = i by omega]
  rw [if_neg a]
  by_cases b : i < 16
  · rw [if_pos b]
    unfold ed_ct
    rw [if_neg (by omega), if_neg (by omega), if_pos (by omega), if_pos (by omega), show 8 + (37 + 2 * (i - 8) - 37) / 2 = i by omega]
  rw [if_neg b]
  by_cases d : i < 32
  · rw [if_pos d]
    unfold ed_ct
    rw [if_neg (by omega), if_neg (by omega), if_neg (by omega), if_neg (by omega), if_neg (by omega), if_pos (by omega), if_neg (by omega), if_neg (by omega), if_neg (by omega), if_neg (by omega), if_neg (by omega), if_pos (by omega), show 16 + (76 + 7 * (i - 16) - 71) / 7 = i by omega]
  rw [if_neg d]
  rcases (show i = 32 ∨ i = 33 by omega) with e | e
  · subst e; rfl
  · subst e; rfl
theorem ed_ct_Proc {ad : Nat → Nat} {ca : Nat → ClassId} {σ : ed_S} {i : Nat} (h : i < 4) : ed_ct ad ca σ (pProc i) = cProc ad ca σ i := by
  unfold pProc ed_ct
  rw [if_neg (by omega), if_neg (by omega), if_neg (by omega), if_neg (by omega), if_pos (by omega), if_pos (by omega), show (((59 + 3 * i) - 59) / 3) = i by omega]
theorem ed_ct_Obj {ad : Nat → Nat} {ca : Nat → ClassId} {σ : ed_S} {i : Nat} (h : i < 16) : ed_ct ad ca σ (pObj i) = cObj ad ca σ i := by
  unfold pObj ed_ct
  rw [if_neg (by omega), if_neg (by omega), if_neg (by omega), if_neg (by omega), if_neg (by omega), if_pos (by omega), if_pos (by omega), show (((71 + 7 * i) - 71) / 7) = i by omega]
theorem ed_ct_Rul {ad : Nat → Nat} {ca : Nat → ClassId} {σ : ed_S} {i : Nat} (h : i < 16) : ed_ct ad ca σ (pRul i) = cRul ad ca σ i := by
  unfold pRul ed_ct
  rw [if_neg (by omega), if_neg (by omega), if_neg (by omega), if_neg (by omega), if_neg (by omega), if_pos (by omega), if_neg (by omega), if_pos (by omega), show (((72 + 7 * i) - 71) / 7) = i by omega]
theorem ed_ct_Tra {ad : Nat → Nat} {ca : Nat → ClassId} {σ : ed_S} {i : Nat} (h : i < 8) : ed_ct ad ca σ (pTra i) = cTra ad ca σ i := by
  unfold pTra ed_ct
  rw [if_neg (by omega), if_neg (by omega), if_neg (by omega), if_neg (by omega), if_neg (by omega), if_neg (by omega), show ((183 + i) - 183) = i by omega]
theorem ed_ct_Itm {ad : Nat → Nat} {ca : Nat → ClassId} {σ : ed_S} {i : Nat} (h : i < 34) : ed_ct ad ca σ (pItm i) = cItm ad ca σ i := by
  unfold pItm pRow
  by_cases a : i < 8
  · rw [if_pos a]
    unfold ed_ct
    rw [if_neg (by omega), if_pos (by omega), if_neg (by omega), if_neg (by omega), if_pos (by omega), show (6 + 4 * i + 1 - 5) / 4 = i by omega]
  rw [if_neg a]
  by_cases b : i < 16
  · rw [if_pos b]
    unfold ed_ct
    rw [if_neg (by omega), if_neg (by omega), if_pos (by omega), if_neg (by omega), show 8 + (37 + 2 * (i - 8) + 1 - 37) / 2 = i by omega]
  rw [if_neg b]
  by_cases d : i < 32
  · rw [if_pos d]
    unfold ed_ct
    rw [if_neg (by omega), if_neg (by omega), if_neg (by omega), if_neg (by omega), if_neg (by omega), if_pos (by omega), if_neg (by omega), if_neg (by omega), if_neg (by omega), if_neg (by omega), if_neg (by omega), if_neg (by omega), show 16 + (76 + 7 * (i - 16) + 1 - 71) / 7 = i by omega]
  rw [if_neg d]
  rcases (show i = 32 ∨ i = 33 by omega) with e | e
  · subst e; rfl
  · subst e; rfl
theorem ed_ct_Plc {ad : Nat → Nat} {ca : Nat → ClassId} {σ : ed_S} {i : Nat} (h : i < 8) : ed_ct ad ca σ (pPlc i) = cPlc ad ca σ i := by
  unfold pPlc ed_ct
  rw [if_neg (by omega), if_pos (by omega), if_neg (by omega), if_neg (by omega), if_neg (by omega), show (((8 + 4 * i) - 5) / 4) = i by omega]
theorem ed_ct_PHo {ad : Nat → Nat} {ca : Nat → ClassId} {σ : ed_S} {i : Nat} (h : i < 4) : ed_ct ad ca σ (pPHo i) = cPHo ad ca σ i := by
  unfold pPHo ed_ct
  rw [if_neg (by omega), if_neg (by omega), if_neg (by omega), if_neg (by omega), if_pos (by omega), if_neg (by omega), if_pos (by omega), show (((60 + 3 * i) - 59) / 3) = i by omega]
theorem ed_ct_PRi {ad : Nat → Nat} {ca : Nat → ClassId} {σ : ed_S} {i : Nat} (h : i < 4) : ed_ct ad ca σ (pPRi i) = cPRi ad ca σ i := by
  unfold pPRi ed_ct
  rw [if_neg (by omega), if_neg (by omega), if_neg (by omega), if_neg (by omega), if_pos (by omega), if_neg (by omega), if_neg (by omega), show (((61 + 3 * i) - 59) / 3) = i by omega]
theorem ed_ct_RKi {ad : Nat → Nat} {ca : Nat → ClassId} {σ : ed_S} {i : Nat} (h : i < 16) : ed_ct ad ca σ (pRKi i) = cRKi ad ca σ i := by
  unfold pRKi ed_ct
  rw [if_neg (by omega), if_neg (by omega), if_neg (by omega), if_neg (by omega), if_neg (by omega), if_pos (by omega), if_neg (by omega), if_neg (by omega), if_pos (by omega), show (((73 + 7 * i) - 71) / 7) = i by omega]
theorem ed_ct_RGr {ad : Nat → Nat} {ca : Nat → ClassId} {σ : ed_S} {i : Nat} (h : i < 16) : ed_ct ad ca σ (pRGr i) = cRGr ad ca σ i := by
  unfold pRGr ed_ct
  rw [if_neg (by omega), if_neg (by omega), if_neg (by omega), if_neg (by omega), if_neg (by omega), if_pos (by omega), if_neg (by omega), if_neg (by omega), if_neg (by omega), if_pos (by omega), show (((74 + 7 * i) - 71) / 7) = i by omega]
theorem ed_ct_RRi {ad : Nat → Nat} {ca : Nat → ClassId} {σ : ed_S} {i : Nat} (h : i < 16) : ed_ct ad ca σ (pRRi i) = cRRi ad ca σ i := by
  unfold pRRi ed_ct
  rw [if_neg (by omega), if_neg (by omega), if_neg (by omega), if_neg (by omega), if_neg (by omega), if_pos (by omega), if_neg (by omega), if_neg (by omega), if_neg (by omega), if_neg (by omega), if_pos (by omega), show (((75 + 7 * i) - 71) / 7) = i by omega]
theorem ed_ct_AProc {ad : Nat → Nat} {ca : Nat → ClassId} {σ : ed_S} {i : Nat} (h : i < 1) : ed_ct ad ca σ (pAProc i) = cAProc ad ca σ i := by
  rcases (show i = 0 by omega) with rfl
  rfl
theorem ed_ct_AThr {ad : Nat → Nat} {ca : Nat → ClassId} {σ : ed_S} {i : Nat} (h : i < 1) : ed_ct ad ca σ (pAThr i) = cAThr ad ca σ i := by
  rcases (show i = 0 by omega) with rfl
  rfl
theorem ed_ct_ARdy {ad : Nat → Nat} {ca : Nat → ClassId} {σ : ed_S} {i : Nat} (h : i < 1) : ed_ct ad ca σ (pARdy i) = cARdy ad ca σ i := by
  rcases (show i = 0 by omega) with rfl
  rfl
theorem ed_ct_AObj {ad : Nat → Nat} {ca : Nat → ClassId} {σ : ed_S} {i : Nat} (h : i < 1) : ed_ct ad ca σ (pAObj i) = cAObj ad ca σ i := by
  rcases (show i = 0 by omega) with rfl
  rfl
theorem ed_ct_ATra {ad : Nat → Nat} {ca : Nat → ClassId} {σ : ed_S} {i : Nat} (h : i < 1) : ed_ct ad ca σ (pATra i) = cATra ad ca σ i := by
  rcases (show i = 0 by omega) with rfl
  rfl
theorem ed_lt_Desk {i : Nat} (h : i < 1) : pDesk i < 191 := by unfold pDesk; omega
theorem ed_w_Desk {ad : Nat → Nat} {ca : Nat → ClassId} {σ : ed_S} {i : Nat} (h : i < 1) : (ed_w ad ca σ)[pDesk i]? = some (ad (pDesk i), cDesk ad ca σ i) := by rw [ed_w_at (ed_lt_Desk h), ed_ct_Desk h]
theorem ed_lt_Sched {i : Nat} (h : i < 1) : pSched i < 191 := by unfold pSched; omega
theorem ed_w_Sched {ad : Nat → Nat} {ca : Nat → ClassId} {σ : ed_S} {i : Nat} (h : i < 1) : (ed_w ad ca σ)[pSched i]? = some (ad (pSched i), cSched ad ca σ i) := by rw [ed_w_at (ed_lt_Sched h), ed_ct_Sched h]
theorem ed_lt_Thr {i : Nat} (h : i < 8) : pThr i < 191 := by unfold pThr; omega
theorem ed_w_Thr {ad : Nat → Nat} {ca : Nat → ClassId} {σ : ed_S} {i : Nat} (h : i < 8) : (ed_w ad ca σ)[pThr i]? = some (ad (pThr i), cThr ad ca σ i) := by rw [ed_w_at (ed_lt_Thr h), ed_ct_Thr h]
theorem ed_lt_Row {i : Nat} (h : i < 34) : pRow i < 191 := by unfold pRow; (repeat' split) <;> omega
theorem ed_w_Row {ad : Nat → Nat} {ca : Nat → ClassId} {σ : ed_S} {i : Nat} (h : i < 34) : (ed_w ad ca σ)[pRow i]? = some (ad (pRow i), cRow ad ca σ i) := by rw [ed_w_at (ed_lt_Row h), ed_ct_Row h]
theorem ed_lt_Proc {i : Nat} (h : i < 4) : pProc i < 191 := by unfold pProc; omega
theorem ed_w_Proc {ad : Nat → Nat} {ca : Nat → ClassId} {σ : ed_S} {i : Nat} (h : i < 4) : (ed_w ad ca σ)[pProc i]? = some (ad (pProc i), cProc ad ca σ i) := by rw [ed_w_at (ed_lt_Proc h), ed_ct_Proc h]
theorem ed_lt_Obj {i : Nat} (h : i < 16) : pObj i < 191 := by unfold pObj; omega
theorem ed_w_Obj {ad : Nat → Nat} {ca : Nat → ClassId} {σ : ed_S} {i : Nat} (h : i < 16) : (ed_w ad ca σ)[pObj i]? = some (ad (pObj i), cObj ad ca σ i) := by rw [ed_w_at (ed_lt_Obj h), ed_ct_Obj h]
theorem ed_lt_Rul {i : Nat} (h : i < 16) : pRul i < 191 := by unfold pRul; omega
theorem ed_w_Rul {ad : Nat → Nat} {ca : Nat → ClassId} {σ : ed_S} {i : Nat} (h : i < 16) : (ed_w ad ca σ)[pRul i]? = some (ad (pRul i), cRul ad ca σ i) := by rw [ed_w_at (ed_lt_Rul h), ed_ct_Rul h]
theorem ed_lt_Tra {i : Nat} (h : i < 8) : pTra i < 191 := by unfold pTra; omega
theorem ed_w_Tra {ad : Nat → Nat} {ca : Nat → ClassId} {σ : ed_S} {i : Nat} (h : i < 8) : (ed_w ad ca σ)[pTra i]? = some (ad (pTra i), cTra ad ca σ i) := by rw [ed_w_at (ed_lt_Tra h), ed_ct_Tra h]
theorem ed_lt_Itm {i : Nat} (h : i < 34) : pItm i < 191 := by unfold pItm pRow; (repeat' split) <;> omega
theorem ed_w_Itm {ad : Nat → Nat} {ca : Nat → ClassId} {σ : ed_S} {i : Nat} (h : i < 34) : (ed_w ad ca σ)[pItm i]? = some (ad (pItm i), cItm ad ca σ i) := by rw [ed_w_at (ed_lt_Itm h), ed_ct_Itm h]
theorem ed_lt_Plc {i : Nat} (h : i < 8) : pPlc i < 191 := by unfold pPlc; omega
theorem ed_w_Plc {ad : Nat → Nat} {ca : Nat → ClassId} {σ : ed_S} {i : Nat} (h : i < 8) : (ed_w ad ca σ)[pPlc i]? = some (ad (pPlc i), cPlc ad ca σ i) := by rw [ed_w_at (ed_lt_Plc h), ed_ct_Plc h]
theorem ed_lt_PHo {i : Nat} (h : i < 4) : pPHo i < 191 := by unfold pPHo; omega
theorem ed_w_PHo {ad : Nat → Nat} {ca : Nat → ClassId} {σ : ed_S} {i : Nat} (h : i < 4) : (ed_w ad ca σ)[pPHo i]? = some (ad (pPHo i), cPHo ad ca σ i) := by rw [ed_w_at (ed_lt_PHo h), ed_ct_PHo h]
theorem ed_lt_PRi {i : Nat} (h : i < 4) : pPRi i < 191 := by unfold pPRi; omega
theorem ed_w_PRi {ad : Nat → Nat} {ca : Nat → ClassId} {σ : ed_S} {i : Nat} (h : i < 4) : (ed_w ad ca σ)[pPRi i]? = some (ad (pPRi i), cPRi ad ca σ i) := by rw [ed_w_at (ed_lt_PRi h), ed_ct_PRi h]
theorem ed_lt_RKi {i : Nat} (h : i < 16) : pRKi i < 191 := by unfold pRKi; omega
theorem ed_w_RKi {ad : Nat → Nat} {ca : Nat → ClassId} {σ : ed_S} {i : Nat} (h : i < 16) : (ed_w ad ca σ)[pRKi i]? = some (ad (pRKi i), cRKi ad ca σ i) := by rw [ed_w_at (ed_lt_RKi h), ed_ct_RKi h]
theorem ed_lt_RGr {i : Nat} (h : i < 16) : pRGr i < 191 := by unfold pRGr; omega
theorem ed_w_RGr {ad : Nat → Nat} {ca : Nat → ClassId} {σ : ed_S} {i : Nat} (h : i < 16) : (ed_w ad ca σ)[pRGr i]? = some (ad (pRGr i), cRGr ad ca σ i) := by rw [ed_w_at (ed_lt_RGr h), ed_ct_RGr h]
theorem ed_lt_RRi {i : Nat} (h : i < 16) : pRRi i < 191 := by unfold pRRi; omega
theorem ed_w_RRi {ad : Nat → Nat} {ca : Nat → ClassId} {σ : ed_S} {i : Nat} (h : i < 16) : (ed_w ad ca σ)[pRRi i]? = some (ad (pRRi i), cRRi ad ca σ i) := by rw [ed_w_at (ed_lt_RRi h), ed_ct_RRi h]
theorem ed_lt_AProc {i : Nat} (h : i < 1) : pAProc i < 191 := by unfold pAProc; omega
theorem ed_w_AProc {ad : Nat → Nat} {ca : Nat → ClassId} {σ : ed_S} {i : Nat} (h : i < 1) : (ed_w ad ca σ)[pAProc i]? = some (ad (pAProc i), cAProc ad ca σ i) := by rw [ed_w_at (ed_lt_AProc h), ed_ct_AProc h]
theorem ed_lt_AThr {i : Nat} (h : i < 1) : pAThr i < 191 := by unfold pAThr; omega
theorem ed_w_AThr {ad : Nat → Nat} {ca : Nat → ClassId} {σ : ed_S} {i : Nat} (h : i < 1) : (ed_w ad ca σ)[pAThr i]? = some (ad (pAThr i), cAThr ad ca σ i) := by rw [ed_w_at (ed_lt_AThr h), ed_ct_AThr h]
theorem ed_lt_ARdy {i : Nat} (h : i < 1) : pARdy i < 191 := by unfold pARdy; omega
theorem ed_w_ARdy {ad : Nat → Nat} {ca : Nat → ClassId} {σ : ed_S} {i : Nat} (h : i < 1) : (ed_w ad ca σ)[pARdy i]? = some (ad (pARdy i), cARdy ad ca σ i) := by rw [ed_w_at (ed_lt_ARdy h), ed_ct_ARdy h]
theorem ed_lt_AObj {i : Nat} (h : i < 1) : pAObj i < 191 := by unfold pAObj; omega
theorem ed_w_AObj {ad : Nat → Nat} {ca : Nat → ClassId} {σ : ed_S} {i : Nat} (h : i < 1) : (ed_w ad ca σ)[pAObj i]? = some (ad (pAObj i), cAObj ad ca σ i) := by rw [ed_w_at (ed_lt_AObj h), ed_ct_AObj h]
theorem ed_lt_ATra {i : Nat} (h : i < 1) : pATra i < 191 := by unfold pATra; omega
theorem ed_w_ATra {ad : Nat → Nat} {ca : Nat → ClassId} {σ : ed_S} {i : Nat} (h : i < 1) : (ed_w ad ca σ)[pATra i]? = some (ad (pATra i), cATra ad ca σ i) := by rw [ed_w_at (ed_lt_ATra h), ed_ct_ATra h]
