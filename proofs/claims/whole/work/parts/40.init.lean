def ed_s0 : ed_S := fun k _ j => match k with
  | 5 => -1
  | 6 => -1
  | 10 => 1
  | 11 => -10
  | 17 => -1
  | 23 => -1
  | 27 => -1
  | 29 => -1
  | 31 => -1
  | 41 => if j < 8 then -1 else 0
  | _ => 0
def ed_ad0 (h0 q1 q3 q5 q6 q9 q11 q13 q15 q16 q18 : Nat) (ad7 ad8 ad11 ad12 ad13 : Nat → Nat → Nat) : Nat → Nat := fun q =>
  if q < 5 then (if q = 0 then h0 else if q = 1 then q1 else if q = 2 then q3 else if q = 3 then q5 else q6)
  else if q < 37 then ad7 ((q - 5) / 4) ((q - 5) % 4)
  else if q < 53 then ad8 ((q - 37) / 2) ((q - 37) % 2)
  else if q < 59 then (if q = 53 then q9 else if q = 54 then q11 else if q = 55 then q13 else if q = 56 then q15 else if q = 57 then q16 else q18)
  else if q < 71 then ad11 ((q - 59) / 3) ((q - 59) % 3)
  else if q < 183 then ad12 ((q - 71) / 7) ((q - 71) % 7)
  else ad13 (q - 183) 0
theorem ed_fill8 : (upd (upd (upd (upd (upd (upd (upd (upd (fun _ => 0) 0 (-1)) 1 (-1)) 2 (-1)) 3 (-1)) 4 (-1)) 5 (-1)) 6 (-1)) 7 (-1) : Nat → Int32) = fun j => if j < 8 then -1 else 0 := by
  funext j
  unfold upd
  by_cases h : j < 8
  · rw [if_pos h]
    rcases (show j = 0 ∨ j = 1 ∨ j = 2 ∨ j = 3 ∨ j = 4 ∨ j = 5 ∨ j = 6 ∨ j = 7 by omega) with rfl | rfl | rfl | rfl | rfl | rfl | rfl | rfl <;> rfl
  · rw [if_neg h, if_neg (by omega), if_neg (by omega), if_neg (by omega), if_neg (by omega), if_neg (by omega), if_neg (by omega), if_neg (by omega), if_neg (by omega)]
theorem ed_fmc {f g : Nat → va_W} {n : Nat} (h : ∀ j, j < n → f j = g j) : (List.range n).flatMap f = (List.range n).flatMap g := by
  rw [List.flatMap_def, List.flatMap_def]
  congr 1
  apply List.map_congr_left
  intro j hj
  exact h j (List.mem_range.mp hj)
section EDI
variable (h0 q1 q3 q5 q6 q9 q11 q13 q15 q16 q18 : Nat) (ad7 ad8 ad11 ad12 ad13 : Nat → Nat → Nat)
theorem ea_Thr {j : Nat} (h : j < 8) : (ed_ad0 h0 q1 q3 q5 q6 q9 q11 q13 q15 q16 q18 ad7 ad8 ad11 ad12 ad13) (pThr j) = ad7 j 0 := by
  have e : pThr j = 5 + 4 * j := by rfl
  rw [e]
  unfold ed_ad0
  rw [if_neg (by omega), if_pos (by omega), show (5 + 4 * j - 5) / 4 = j by omega, show (5 + 4 * j - 5) % 4 = 0 by omega]
theorem ea_RowT {j : Nat} (h : j < 8) : (ed_ad0 h0 q1 q3 q5 q6 q9 q11 q13 q15 q16 q18 ad7 ad8 ad11 ad12 ad13) (pRow j) = ad7 j 1 := by
  have e : pRow j = 6 + 4 * j := by unfold pRow; rw [if_pos (by omega)]
  rw [e]
  unfold ed_ad0
  rw [if_neg (by omega), if_pos (by omega), show (6 + 4 * j - 5) / 4 = j by omega, show (6 + 4 * j - 5) % 4 = 1 by omega]
theorem ea_ItmT {j : Nat} (h : j < 8) : (ed_ad0 h0 q1 q3 q5 q6 q9 q11 q13 q15 q16 q18 ad7 ad8 ad11 ad12 ad13) (pItm j) = ad7 j 2 := by
  have e : pItm j = 7 + 4 * j := by unfold pItm pRow; rw [if_pos (by omega)]; omega
  rw [e]
  unfold ed_ad0
  rw [if_neg (by omega), if_pos (by omega), show (7 + 4 * j - 5) / 4 = j by omega, show (7 + 4 * j - 5) % 4 = 2 by omega]
theorem ea_Plc {j : Nat} (h : j < 8) : (ed_ad0 h0 q1 q3 q5 q6 q9 q11 q13 q15 q16 q18 ad7 ad8 ad11 ad12 ad13) (pPlc j) = ad7 j 3 := by
  have e : pPlc j = 8 + 4 * j := by rfl
  rw [e]
  unfold ed_ad0
  rw [if_neg (by omega), if_pos (by omega), show (8 + 4 * j - 5) / 4 = j by omega, show (8 + 4 * j - 5) % 4 = 3 by omega]
theorem ea_RowR {j : Nat} (h : j < 8) : (ed_ad0 h0 q1 q3 q5 q6 q9 q11 q13 q15 q16 q18 ad7 ad8 ad11 ad12 ad13) (pRow (8 + j)) = ad8 j 0 := by
  have e : pRow (8 + j) = 37 + 2 * j := by unfold pRow; rw [if_neg (by omega), if_pos (by omega)]; omega
  rw [e]
  unfold ed_ad0
  rw [if_neg (by omega), if_neg (by omega), if_pos (by omega), show (37 + 2 * j - 37) / 2 = j by omega, show (37 + 2 * j - 37) % 2 = 0 by omega]
theorem ea_ItmR {j : Nat} (h : j < 8) : (ed_ad0 h0 q1 q3 q5 q6 q9 q11 q13 q15 q16 q18 ad7 ad8 ad11 ad12 ad13) (pItm (8 + j)) = ad8 j 1 := by
  have e : pItm (8 + j) = 38 + 2 * j := by unfold pItm pRow; rw [if_neg (by omega), if_pos (by omega)]; omega
  rw [e]
  unfold ed_ad0
  rw [if_neg (by omega), if_neg (by omega), if_pos (by omega), show (38 + 2 * j - 37) / 2 = j by omega, show (38 + 2 * j - 37) % 2 = 1 by omega]
theorem ea_Proc {j : Nat} (h : j < 4) : (ed_ad0 h0 q1 q3 q5 q6 q9 q11 q13 q15 q16 q18 ad7 ad8 ad11 ad12 ad13) (pProc j) = ad11 j 0 := by
  have e : pProc j = 59 + 3 * j := by rfl
  rw [e]
  unfold ed_ad0
  rw [if_neg (by omega), if_neg (by omega), if_neg (by omega), if_neg (by omega), if_pos (by omega), show (59 + 3 * j - 59) / 3 = j by omega, show (59 + 3 * j - 59) % 3 = 0 by omega]
theorem ea_PHo {j : Nat} (h : j < 4) : (ed_ad0 h0 q1 q3 q5 q6 q9 q11 q13 q15 q16 q18 ad7 ad8 ad11 ad12 ad13) (pPHo j) = ad11 j 1 := by
  have e : pPHo j = 60 + 3 * j := by rfl
  rw [e]
  unfold ed_ad0
  rw [if_neg (by omega), if_neg (by omega), if_neg (by omega), if_neg (by omega), if_pos (by omega), show (60 + 3 * j - 59) / 3 = j by omega, show (60 + 3 * j - 59) % 3 = 1 by omega]
theorem ea_PRi {j : Nat} (h : j < 4) : (ed_ad0 h0 q1 q3 q5 q6 q9 q11 q13 q15 q16 q18 ad7 ad8 ad11 ad12 ad13) (pPRi j) = ad11 j 2 := by
  have e : pPRi j = 61 + 3 * j := by rfl
  rw [e]
  unfold ed_ad0
  rw [if_neg (by omega), if_neg (by omega), if_neg (by omega), if_neg (by omega), if_pos (by omega), show (61 + 3 * j - 59) / 3 = j by omega, show (61 + 3 * j - 59) % 3 = 2 by omega]
theorem ea_Obj {j : Nat} (h : j < 16) : (ed_ad0 h0 q1 q3 q5 q6 q9 q11 q13 q15 q16 q18 ad7 ad8 ad11 ad12 ad13) (pObj j) = ad12 j 0 := by
  have e : pObj j = 71 + 7 * j := by rfl
  rw [e]
  unfold ed_ad0
  rw [if_neg (by omega), if_neg (by omega), if_neg (by omega), if_neg (by omega), if_neg (by omega), if_pos (by omega), show (71 + 7 * j - 71) / 7 = j by omega, show (71 + 7 * j - 71) % 7 = 0 by omega]
theorem ea_Rul {j : Nat} (h : j < 16) : (ed_ad0 h0 q1 q3 q5 q6 q9 q11 q13 q15 q16 q18 ad7 ad8 ad11 ad12 ad13) (pRul j) = ad12 j 1 := by
  have e : pRul j = 72 + 7 * j := by rfl
  rw [e]
  unfold ed_ad0
  rw [if_neg (by omega), if_neg (by omega), if_neg (by omega), if_neg (by omega), if_neg (by omega), if_pos (by omega), show (72 + 7 * j - 71) / 7 = j by omega, show (72 + 7 * j - 71) % 7 = 1 by omega]
theorem ea_RKi {j : Nat} (h : j < 16) : (ed_ad0 h0 q1 q3 q5 q6 q9 q11 q13 q15 q16 q18 ad7 ad8 ad11 ad12 ad13) (pRKi j) = ad12 j 2 := by
  have e : pRKi j = 73 + 7 * j := by rfl
  rw [e]
  unfold ed_ad0
  rw [if_neg (by omega), if_neg (by omega), if_neg (by omega), if_neg (by omega), if_neg (by omega), if_pos (by omega), show (73 + 7 * j - 71) / 7 = j by omega, show (73 + 7 * j - 71) % 7 = 2 by omega]
theorem ea_RGr {j : Nat} (h : j < 16) : (ed_ad0 h0 q1 q3 q5 q6 q9 q11 q13 q15 q16 q18 ad7 ad8 ad11 ad12 ad13) (pRGr j) = ad12 j 3 := by
  have e : pRGr j = 74 + 7 * j := by rfl
  rw [e]
  unfold ed_ad0
  rw [if_neg (by omega), if_neg (by omega), if_neg (by omega), if_neg (by omega), if_neg (by omega), if_pos (by omega), show (74 + 7 * j - 71) / 7 = j by omega, show (74 + 7 * j - 71) % 7 = 3 by omega]
theorem ea_RRi {j : Nat} (h : j < 16) : (ed_ad0 h0 q1 q3 q5 q6 q9 q11 q13 q15 q16 q18 ad7 ad8 ad11 ad12 ad13) (pRRi j) = ad12 j 4 := by
  have e : pRRi j = 75 + 7 * j := by rfl
  rw [e]
  unfold ed_ad0
  rw [if_neg (by omega), if_neg (by omega), if_neg (by omega), if_neg (by omega), if_neg (by omega), if_pos (by omega), show (75 + 7 * j - 71) / 7 = j by omega, show (75 + 7 * j - 71) % 7 = 4 by omega]
theorem ea_RowO {j : Nat} (h : j < 16) : (ed_ad0 h0 q1 q3 q5 q6 q9 q11 q13 q15 q16 q18 ad7 ad8 ad11 ad12 ad13) (pRow (16 + j)) = ad12 j 5 := by
  have e : pRow (16 + j) = 76 + 7 * j := by unfold pRow; rw [if_neg (by omega), if_neg (by omega), if_pos (by omega)]; omega
  rw [e]
  unfold ed_ad0
  rw [if_neg (by omega), if_neg (by omega), if_neg (by omega), if_neg (by omega), if_neg (by omega), if_pos (by omega), show (76 + 7 * j - 71) / 7 = j by omega, show (76 + 7 * j - 71) % 7 = 5 by omega]
theorem ea_ItmO {j : Nat} (h : j < 16) : (ed_ad0 h0 q1 q3 q5 q6 q9 q11 q13 q15 q16 q18 ad7 ad8 ad11 ad12 ad13) (pItm (16 + j)) = ad12 j 6 := by
  have e : pItm (16 + j) = 77 + 7 * j := by unfold pItm pRow; rw [if_neg (by omega), if_neg (by omega), if_pos (by omega)]; omega
  rw [e]
  unfold ed_ad0
  rw [if_neg (by omega), if_neg (by omega), if_neg (by omega), if_neg (by omega), if_neg (by omega), if_pos (by omega), show (77 + 7 * j - 71) / 7 = j by omega, show (77 + 7 * j - 71) % 7 = 6 by omega]
theorem ea_Tra {j : Nat} (h : j < 8) : (ed_ad0 h0 q1 q3 q5 q6 q9 q11 q13 q15 q16 q18 ad7 ad8 ad11 ad12 ad13) (pTra j) = ad13 j 0 := by
  unfold ed_ad0 pTra
  rw [if_neg (by omega), if_neg (by omega), if_neg (by omega), if_neg (by omega), if_neg (by omega), if_neg (by omega), show 183 + j - 183 = j by omega]
theorem er_AProc : (fun j => if j < 4 then some ((ed_ad0 h0 q1 q3 q5 q6 q9 q11 q13 q15 q16 q18 ad7 ad8 ad11 ad12 ad13) (pProc j)) else none) = ed_pf ad11 4 := by
  funext j
  unfold ed_pf
  by_cases h : j < 4
  · rw [if_pos h, if_pos h, ea_Proc h0 q1 q3 q5 q6 q9 q11 q13 q15 q16 q18 ad7 ad8 ad11 ad12 ad13 h]
  · rw [if_neg h, if_neg h]
theorem er_AThr : (fun j => if j < 8 then some ((ed_ad0 h0 q1 q3 q5 q6 q9 q11 q13 q15 q16 q18 ad7 ad8 ad11 ad12 ad13) (pThr j)) else none) = ed_pf ad7 8 := by
  funext j
  unfold ed_pf
  by_cases h : j < 8
  · rw [if_pos h, if_pos h, ea_Thr h0 q1 q3 q5 q6 q9 q11 q13 q15 q16 q18 ad7 ad8 ad11 ad12 ad13 h]
  · rw [if_neg h, if_neg h]
theorem er_ARdy : (fun j => if j < 8 then some ((ed_ad0 h0 q1 q3 q5 q6 q9 q11 q13 q15 q16 q18 ad7 ad8 ad11 ad12 ad13) (pRow (8 + j))) else none) = ed_pf ad8 8 := by
  funext j
  unfold ed_pf
  by_cases h : j < 8
  · rw [if_pos h, if_pos h, ea_RowR h0 q1 q3 q5 q6 q9 q11 q13 q15 q16 q18 ad7 ad8 ad11 ad12 ad13 h]
  · rw [if_neg h, if_neg h]
theorem er_AObj : (fun j => if j < 16 then some ((ed_ad0 h0 q1 q3 q5 q6 q9 q11 q13 q15 q16 q18 ad7 ad8 ad11 ad12 ad13) (pObj j)) else none) = ed_pf ad12 16 := by
  funext j
  unfold ed_pf
  by_cases h : j < 16
  · rw [if_pos h, if_pos h, ea_Obj h0 q1 q3 q5 q6 q9 q11 q13 q15 q16 q18 ad7 ad8 ad11 ad12 ad13 h]
  · rw [if_neg h, if_neg h]
theorem er_ATra : (fun j => if j < 8 then some ((ed_ad0 h0 q1 q3 q5 q6 q9 q11 q13 q15 q16 q18 ad7 ad8 ad11 ad12 ad13) (pTra j)) else none) = ed_pf ad13 8 := by
  funext j
  unfold ed_pf
  by_cases h : j < 8
  · rw [if_pos h, if_pos h, ea_Tra h0 q1 q3 q5 q6 q9 q11 q13 q15 q16 q18 ad7 ad8 ad11 ad12 ad13 h]
  · rw [if_neg h, if_neg h]
theorem eb_Thr (ca : Nat → ClassId) {j : Nat} (h : j < 8) : [((ed_ad0 h0 q1 q3 q5 q6 q9 q11 q13 q15 q16 q18 ad7 ad8 ad11 ad12 ad13) (pThr j), ed_ct (ed_ad0 h0 q1 q3 q5 q6 q9 q11 q13 q15 q16 q18 ad7 ad8 ad11 ad12 ad13) ca ed_s0 (pThr j)), ((ed_ad0 h0 q1 q3 q5 q6 q9 q11 q13 q15 q16 q18 ad7 ad8 ad11 ad12 ad13) (pRow j), ed_ct (ed_ad0 h0 q1 q3 q5 q6 q9 q11 q13 q15 q16 q18 ad7 ad8 ad11 ad12 ad13) ca ed_s0 (pRow j)), ((ed_ad0 h0 q1 q3 q5 q6 q9 q11 q13 q15 q16 q18 ad7 ad8 ad11 ad12 ad13) (pItm j), ed_ct (ed_ad0 h0 q1 q3 q5 q6 q9 q11 q13 q15 q16 q18 ad7 ad8 ad11 ad12 ad13) ca ed_s0 (pItm j)), ((ed_ad0 h0 q1 q3 q5 q6 q9 q11 q13 q15 q16 q18 ad7 ad8 ad11 ad12 ad13) (pPlc j), ed_ct (ed_ad0 h0 q1 q3 q5 q6 q9 q11 q13 q15 q16 q18 ad7 ad8 ad11 ad12 ad13) ca ed_s0 (pPlc j))] = k_Thr ca (ad7 j 0) (ad7 j 1) (ad7 j 2) (ad7 j 3) := by
  rw [ed_ct_Thr (i := j) (by omega), ed_ct_Row (i := j) (by omega), ed_ct_Itm (i := j) (by omega), ed_ct_Plc (i := j) (by omega)]
  unfold k_Thr k_Row4
  simp only [cThr, cRow, cItm, cPlc, ea_ItmT h0 q1 q3 q5 q6 q9 q11 q13 q15 q16 q18 ad7 ad8 ad11 ad12 ad13 h, ea_Plc h0 q1 q3 q5 q6 q9 q11 q13 q15 q16 q18 ad7 ad8 ad11 ad12 ad13 h, ea_RowT h0 q1 q3 q5 q6 q9 q11 q13 q15 q16 q18 ad7 ad8 ad11 ad12 ad13 h, ea_Thr h0 q1 q3 q5 q6 q9 q11 q13 q15 q16 q18 ad7 ad8 ad11 ad12 ad13 h, List.cons_append, List.nil_append]
  rw [show ed_cap (j) = 4 from if_pos h]
  rfl
theorem eb_Rdy (ca : Nat → ClassId) {j : Nat} (h : j < 8) : [((ed_ad0 h0 q1 q3 q5 q6 q9 q11 q13 q15 q16 q18 ad7 ad8 ad11 ad12 ad13) (pRow (8 + j)), ed_ct (ed_ad0 h0 q1 q3 q5 q6 q9 q11 q13 q15 q16 q18 ad7 ad8 ad11 ad12 ad13) ca ed_s0 (pRow (8 + j))), ((ed_ad0 h0 q1 q3 q5 q6 q9 q11 q13 q15 q16 q18 ad7 ad8 ad11 ad12 ad13) (pItm (8 + j)), ed_ct (ed_ad0 h0 q1 q3 q5 q6 q9 q11 q13 q15 q16 q18 ad7 ad8 ad11 ad12 ad13) ca ed_s0 (pItm (8 + j)))] = k_Row8 ca (ad8 j 0) (ad8 j 1) := by
  rw [ed_ct_Row (i := 8 + j) (by omega), ed_ct_Itm (i := 8 + j) (by omega)]
  unfold k_Row8
  simp only [cRow, cItm, ea_ItmR h0 q1 q3 q5 q6 q9 q11 q13 q15 q16 q18 ad7 ad8 ad11 ad12 ad13 h, ea_RowR h0 q1 q3 q5 q6 q9 q11 q13 q15 q16 q18 ad7 ad8 ad11 ad12 ad13 h, List.cons_append, List.nil_append]
  rw [show ed_cap (8 + j) = 8 from if_neg (by omega)]
  rfl
theorem eb_Proc (ca : Nat → ClassId) {j : Nat} (h : j < 4) : [((ed_ad0 h0 q1 q3 q5 q6 q9 q11 q13 q15 q16 q18 ad7 ad8 ad11 ad12 ad13) (pProc j), ed_ct (ed_ad0 h0 q1 q3 q5 q6 q9 q11 q13 q15 q16 q18 ad7 ad8 ad11 ad12 ad13) ca ed_s0 (pProc j)), ((ed_ad0 h0 q1 q3 q5 q6 q9 q11 q13 q15 q16 q18 ad7 ad8 ad11 ad12 ad13) (pPHo j), ed_ct (ed_ad0 h0 q1 q3 q5 q6 q9 q11 q13 q15 q16 q18 ad7 ad8 ad11 ad12 ad13) ca ed_s0 (pPHo j)), ((ed_ad0 h0 q1 q3 q5 q6 q9 q11 q13 q15 q16 q18 ad7 ad8 ad11 ad12 ad13) (pPRi j), ed_ct (ed_ad0 h0 q1 q3 q5 q6 q9 q11 q13 q15 q16 q18 ad7 ad8 ad11 ad12 ad13) ca ed_s0 (pPRi j))] = k_Proc ca (ad11 j 0) (ad11 j 1) (ad11 j 2) := by
  rw [ed_ct_Proc (i := j) (by omega), ed_ct_PHo (i := j) (by omega), ed_ct_PRi (i := j) (by omega)]
  unfold k_Proc
  simp only [cProc, cPHo, cPRi, ea_PHo h0 q1 q3 q5 q6 q9 q11 q13 q15 q16 q18 ad7 ad8 ad11 ad12 ad13 h, ea_PRi h0 q1 q3 q5 q6 q9 q11 q13 q15 q16 q18 ad7 ad8 ad11 ad12 ad13 h, ea_Proc h0 q1 q3 q5 q6 q9 q11 q13 q15 q16 q18 ad7 ad8 ad11 ad12 ad13 h, List.cons_append, List.nil_append, ed_fill8]
  rfl
theorem eb_Obj (ca : Nat → ClassId) {j : Nat} (h : j < 16) : [((ed_ad0 h0 q1 q3 q5 q6 q9 q11 q13 q15 q16 q18 ad7 ad8 ad11 ad12 ad13) (pObj j), ed_ct (ed_ad0 h0 q1 q3 q5 q6 q9 q11 q13 q15 q16 q18 ad7 ad8 ad11 ad12 ad13) ca ed_s0 (pObj j)), ((ed_ad0 h0 q1 q3 q5 q6 q9 q11 q13 q15 q16 q18 ad7 ad8 ad11 ad12 ad13) (pRul j), ed_ct (ed_ad0 h0 q1 q3 q5 q6 q9 q11 q13 q15 q16 q18 ad7 ad8 ad11 ad12 ad13) ca ed_s0 (pRul j)), ((ed_ad0 h0 q1 q3 q5 q6 q9 q11 q13 q15 q16 q18 ad7 ad8 ad11 ad12 ad13) (pRKi j), ed_ct (ed_ad0 h0 q1 q3 q5 q6 q9 q11 q13 q15 q16 q18 ad7 ad8 ad11 ad12 ad13) ca ed_s0 (pRKi j)), ((ed_ad0 h0 q1 q3 q5 q6 q9 q11 q13 q15 q16 q18 ad7 ad8 ad11 ad12 ad13) (pRGr j), ed_ct (ed_ad0 h0 q1 q3 q5 q6 q9 q11 q13 q15 q16 q18 ad7 ad8 ad11 ad12 ad13) ca ed_s0 (pRGr j)), ((ed_ad0 h0 q1 q3 q5 q6 q9 q11 q13 q15 q16 q18 ad7 ad8 ad11 ad12 ad13) (pRRi j), ed_ct (ed_ad0 h0 q1 q3 q5 q6 q9 q11 q13 q15 q16 q18 ad7 ad8 ad11 ad12 ad13) ca ed_s0 (pRRi j)), ((ed_ad0 h0 q1 q3 q5 q6 q9 q11 q13 q15 q16 q18 ad7 ad8 ad11 ad12 ad13) (pRow (16 + j)), ed_ct (ed_ad0 h0 q1 q3 q5 q6 q9 q11 q13 q15 q16 q18 ad7 ad8 ad11 ad12 ad13) ca ed_s0 (pRow (16 + j))), ((ed_ad0 h0 q1 q3 q5 q6 q9 q11 q13 q15 q16 q18 ad7 ad8 ad11 ad12 ad13) (pItm (16 + j)), ed_ct (ed_ad0 h0 q1 q3 q5 q6 q9 q11 q13 q15 q16 q18 ad7 ad8 ad11 ad12 ad13) ca ed_s0 (pItm (16 + j)))] = k_Obj ca (ad12 j 0) (ad12 j 1) (ad12 j 2) (ad12 j 3) (ad12 j 4) (ad12 j 5) (ad12 j 6) := by
  rw [ed_ct_Obj (i := j) (by omega), ed_ct_Rul (i := j) (by omega), ed_ct_RKi (i := j) (by omega), ed_ct_RGr (i := j) (by omega), ed_ct_RRi (i := j) (by omega), ed_ct_Row (i := 16 + j) (by omega), ed_ct_Itm (i := 16 + j) (by omega)]
  unfold k_Obj k_Rul k_Row8
  simp only [cObj, cRul, cRKi, cRGr, cRRi, cRow, cItm, ea_ItmO h0 q1 q3 q5 q6 q9 q11 q13 q15 q16 q18 ad7 ad8 ad11 ad12 ad13 h, ea_Obj h0 q1 q3 q5 q6 q9 q11 q13 q15 q16 q18 ad7 ad8 ad11 ad12 ad13 h, ea_RGr h0 q1 q3 q5 q6 q9 q11 q13 q15 q16 q18 ad7 ad8 ad11 ad12 ad13 h, ea_RKi h0 q1 q3 q5 q6 q9 q11 q13 q15 q16 q18 ad7 ad8 ad11 ad12 ad13 h, ea_RRi h0 q1 q3 q5 q6 q9 q11 q13 q15 q16 q18 ad7 ad8 ad11 ad12 ad13 h, ea_RowO h0 q1 q3 q5 q6 q9 q11 q13 q15 q16 q18 ad7 ad8 ad11 ad12 ad13 h, ea_Rul h0 q1 q3 q5 q6 q9 q11 q13 q15 q16 q18 ad7 ad8 ad11 ad12 ad13 h, List.cons_append, List.nil_append]
  rw [show ed_cap (16 + j) = 8 from if_neg (by omega)]
  rfl
theorem eb_Tra (ca : Nat → ClassId) {j : Nat} (h : j < 8) : [((ed_ad0 h0 q1 q3 q5 q6 q9 q11 q13 q15 q16 q18 ad7 ad8 ad11 ad12 ad13) (pTra j), ed_ct (ed_ad0 h0 q1 q3 q5 q6 q9 q11 q13 q15 q16 q18 ad7 ad8 ad11 ad12 ad13) ca ed_s0 (pTra j))] = k_Tra ca (ad13 j 0) := by
  rw [ed_ct_Tra (i := j) (by omega)]
  unfold k_Tra
  simp only [cTra, ea_Tra h0 q1 q3 q5 q6 q9 q11 q13 q15 q16 q18 ad7 ad8 ad11 ad12 ad13 h, List.cons_append, List.nil_append]
  rfl
end EDI
theorem ed_rg : List.range 191 = [pDesk 0, pAProc 0] ++ ((([pSched 0, pAThr 0, pARdy 0] ++ (List.range 8).flatMap (fun j => [pThr j, pRow j, pItm j, pPlc j])) ++ (List.range 8).flatMap (fun j => [pRow (8 + j), pItm (8 + j)])) ++ ([pAObj 0, pATra 0] ++ (([pRow 32, pItm 32] ++ [pRow 33, pItm 33]) ++ ((List.range 4).flatMap (fun j => [pProc j, pPHo j, pPRi j]) ++ ((List.range 16).flatMap (fun j => [pObj j, pRul j, pRKi j, pRGr j, pRRi j, pRow (16 + j), pItm (16 + j)]) ++ (List.range 8).flatMap (fun j => [pTra j])))))) := by decide +kernel
set_option maxHeartbeats 4000000 in
theorem ed_w0 (ca : Nat → ClassId) (h0 q1 q3 q5 q6 q9 q11 q13 q15 q16 q18 : Nat) (ad7 ad8 ad11 ad12 ad13 : Nat → Nat → Nat) : ed_w (ed_ad0 h0 q1 q3 q5 q6 q9 q11 q13 q15 q16 q18 ad7 ad8 ad11 ad12 ad13) ca ed_s0 = [(h0, .inr (7, [.ref q1, .ref q3, .ref q5, .ref q9, .ref q11, .ref q13, .ref q16, .int 0, .int 0, .int 0, .int 0, .int 0])), (q1, .inl (ca 1, 4, .inr (.inr (.inr (.inr (ed_pf ad11 4))))))] ++ ((([(q3, .inr (4, [.ref q5, .ref q6, .int (-1), .int (-1), .int 0])), (q5, .inl (ca 2, 8, .inr (.inr (.inr (.inr (ed_pf ad7 8)))))), (q6, .inl (ca 3, 8, .inr (.inr (.inr (.inr (ed_pf ad8 8))))))] ++ ed_po (fun a => k_Thr ca (a 0) (a 1) (a 2) (a 3)) ad7 8) ++ ed_po (fun a => k_Row8 ca (a 0) (a 1)) ad8 8) ++ ([(q9, .inl (ca 4, 16, .inr (.inr (.inr (.inr (ed_pf ad12 16)))))), (q11, .inl (ca 5, 8, .inr (.inr (.inr (.inr (ed_pf ad13 8))))))] ++ ((k_Row8 ca q13 q15 ++ k_Row8 ca q16 q18) ++ (ed_po (fun a => k_Proc ca (a 0) (a 1) (a 2)) ad11 4 ++ (ed_po (fun a => k_Obj ca (a 0) (a 1) (a 2) (a 3) (a 4) (a 5) (a 6)) ad12 16 ++ ed_po (fun a => k_Tra ca (a 0)) ad13 8))))) := by
  unfold ed_w
  rw [ed_rg]
  simp only [List.map_append, List.map_flatMap, List.map_cons, List.map_nil]
  have e1 : (List.range 8).flatMap (fun j => [((ed_ad0 h0 q1 q3 q5 q6 q9 q11 q13 q15 q16 q18 ad7 ad8 ad11 ad12 ad13) (pThr j), ed_ct (ed_ad0 h0 q1 q3 q5 q6 q9 q11 q13 q15 q16 q18 ad7 ad8 ad11 ad12 ad13) ca ed_s0 (pThr j)), ((ed_ad0 h0 q1 q3 q5 q6 q9 q11 q13 q15 q16 q18 ad7 ad8 ad11 ad12 ad13) (pRow j), ed_ct (ed_ad0 h0 q1 q3 q5 q6 q9 q11 q13 q15 q16 q18 ad7 ad8 ad11 ad12 ad13) ca ed_s0 (pRow j)), ((ed_ad0 h0 q1 q3 q5 q6 q9 q11 q13 q15 q16 q18 ad7 ad8 ad11 ad12 ad13) (pItm j), ed_ct (ed_ad0 h0 q1 q3 q5 q6 q9 q11 q13 q15 q16 q18 ad7 ad8 ad11 ad12 ad13) ca ed_s0 (pItm j)), ((ed_ad0 h0 q1 q3 q5 q6 q9 q11 q13 q15 q16 q18 ad7 ad8 ad11 ad12 ad13) (pPlc j), ed_ct (ed_ad0 h0 q1 q3 q5 q6 q9 q11 q13 q15 q16 q18 ad7 ad8 ad11 ad12 ad13) ca ed_s0 (pPlc j))]) = ed_po (fun a => k_Thr ca (a 0) (a 1) (a 2) (a 3)) ad7 8 := ed_fmc (fun j h => eb_Thr h0 q1 q3 q5 q6 q9 q11 q13 q15 q16 q18 ad7 ad8 ad11 ad12 ad13 ca h)
  have e2 : (List.range 8).flatMap (fun j => [((ed_ad0 h0 q1 q3 q5 q6 q9 q11 q13 q15 q16 q18 ad7 ad8 ad11 ad12 ad13) (pRow (8 + j)), ed_ct (ed_ad0 h0 q1 q3 q5 q6 q9 q11 q13 q15 q16 q18 ad7 ad8 ad11 ad12 ad13) ca ed_s0 (pRow (8 + j))), ((ed_ad0 h0 q1 q3 q5 q6 q9 q11 q13 q15 q16 q18 ad7 ad8 ad11 ad12 ad13) (pItm (8 + j)), ed_ct (ed_ad0 h0 q1 q3 q5 q6 q9 q11 q13 q15 q16 q18 ad7 ad8 ad11 ad12 ad13) ca ed_s0 (pItm (8 + j)))]) = ed_po (fun a => k_Row8 ca (a 0) (a 1)) ad8 8 := ed_fmc (fun j h => eb_Rdy h0 q1 q3 q5 q6 q9 q11 q13 q15 q16 q18 ad7 ad8 ad11 ad12 ad13 ca h)
  have e3 : (List.range 4).flatMap (fun j => [((ed_ad0 h0 q1 q3 q5 q6 q9 q11 q13 q15 q16 q18 ad7 ad8 ad11 ad12 ad13) (pProc j), ed_ct (ed_ad0 h0 q1 q3 q5 q6 q9 q11 q13 q15 q16 q18 ad7 ad8 ad11 ad12 ad13) ca ed_s0 (pProc j)), ((ed_ad0 h0 q1 q3 q5 q6 q9 q11 q13 q15 q16 q18 ad7 ad8 ad11 ad12 ad13) (pPHo j), ed_ct (ed_ad0 h0 q1 q3 q5 q6 q9 q11 q13 q15 q16 q18 ad7 ad8 ad11 ad12 ad13) ca ed_s0 (pPHo j)), ((ed_ad0 h0 q1 q3 q5 q6 q9 q11 q13 q15 q16 q18 ad7 ad8 ad11 ad12 ad13) (pPRi j), ed_ct (ed_ad0 h0 q1 q3 q5 q6 q9 q11 q13 q15 q16 q18 ad7 ad8 ad11 ad12 ad13) ca ed_s0 (pPRi j))]) = ed_po (fun a => k_Proc ca (a 0) (a 1) (a 2)) ad11 4 := ed_fmc (fun j h => eb_Proc h0 q1 q3 q5 q6 q9 q11 q13 q15 q16 q18 ad7 ad8 ad11 ad12 ad13 ca h)
  have e4 : (List.range 16).flatMap (fun j => [((ed_ad0 h0 q1 q3 q5 q6 q9 q11 q13 q15 q16 q18 ad7 ad8 ad11 ad12 ad13) (pObj j), ed_ct (ed_ad0 h0 q1 q3 q5 q6 q9 q11 q13 q15 q16 q18 ad7 ad8 ad11 ad12 ad13) ca ed_s0 (pObj j)), ((ed_ad0 h0 q1 q3 q5 q6 q9 q11 q13 q15 q16 q18 ad7 ad8 ad11 ad12 ad13) (pRul j), ed_ct (ed_ad0 h0 q1 q3 q5 q6 q9 q11 q13 q15 q16 q18 ad7 ad8 ad11 ad12 ad13) ca ed_s0 (pRul j)), ((ed_ad0 h0 q1 q3 q5 q6 q9 q11 q13 q15 q16 q18 ad7 ad8 ad11 ad12 ad13) (pRKi j), ed_ct (ed_ad0 h0 q1 q3 q5 q6 q9 q11 q13 q15 q16 q18 ad7 ad8 ad11 ad12 ad13) ca ed_s0 (pRKi j)), ((ed_ad0 h0 q1 q3 q5 q6 q9 q11 q13 q15 q16 q18 ad7 ad8 ad11 ad12 ad13) (pRGr j), ed_ct (ed_ad0 h0 q1 q3 q5 q6 q9 q11 q13 q15 q16 q18 ad7 ad8 ad11 ad12 ad13) ca ed_s0 (pRGr j)), ((ed_ad0 h0 q1 q3 q5 q6 q9 q11 q13 q15 q16 q18 ad7 ad8 ad11 ad12 ad13) (pRRi j), ed_ct (ed_ad0 h0 q1 q3 q5 q6 q9 q11 q13 q15 q16 q18 ad7 ad8 ad11 ad12 ad13) ca ed_s0 (pRRi j)), ((ed_ad0 h0 q1 q3 q5 q6 q9 q11 q13 q15 q16 q18 ad7 ad8 ad11 ad12 ad13) (pRow (16 + j)), ed_ct (ed_ad0 h0 q1 q3 q5 q6 q9 q11 q13 q15 q16 q18 ad7 ad8 ad11 ad12 ad13) ca ed_s0 (pRow (16 + j))), ((ed_ad0 h0 q1 q3 q5 q6 q9 q11 q13 q15 q16 q18 ad7 ad8 ad11 ad12 ad13) (pItm (16 + j)), ed_ct (ed_ad0 h0 q1 q3 q5 q6 q9 q11 q13 q15 q16 q18 ad7 ad8 ad11 ad12 ad13) ca ed_s0 (pItm (16 + j)))]) = ed_po (fun a => k_Obj ca (a 0) (a 1) (a 2) (a 3) (a 4) (a 5) (a 6)) ad12 16 := ed_fmc (fun j h => eb_Obj h0 q1 q3 q5 q6 q9 q11 q13 q15 q16 q18 ad7 ad8 ad11 ad12 ad13 ca h)
  have e5 : (List.range 8).flatMap (fun j => [((ed_ad0 h0 q1 q3 q5 q6 q9 q11 q13 q15 q16 q18 ad7 ad8 ad11 ad12 ad13) (pTra j), ed_ct (ed_ad0 h0 q1 q3 q5 q6 q9 q11 q13 q15 q16 q18 ad7 ad8 ad11 ad12 ad13) ca ed_s0 (pTra j))]) = ed_po (fun a => k_Tra ca (a 0)) ad13 8 := ed_fmc (fun j h => eb_Tra h0 q1 q3 q5 q6 q9 q11 q13 q15 q16 q18 ad7 ad8 ad11 ad12 ad13 ca h)
  rw [e1, e2, e3, e4, e5]
  rw [ed_ct_Desk (by decide), ed_ct_AProc (by decide), ed_ct_Sched (by decide), ed_ct_AThr (by decide), ed_ct_ARdy (by decide), ed_ct_AObj (by decide), ed_ct_ATra (by decide), ed_ct_Row (i := 32) (by decide), ed_ct_Itm (i := 32) (by decide), ed_ct_Row (i := 33) (by decide), ed_ct_Itm (i := 33) (by decide)]
  simp only [cDesk, cAProc, cSched, cAThr, cARdy, cAObj, cATra, er_AProc h0 q1 q3 q5 q6 q9 q11 q13 q15 q16 q18 ad7 ad8 ad11 ad12 ad13, er_AThr h0 q1 q3 q5 q6 q9 q11 q13 q15 q16 q18 ad7 ad8 ad11 ad12 ad13, er_ARdy h0 q1 q3 q5 q6 q9 q11 q13 q15 q16 q18 ad7 ad8 ad11 ad12 ad13, er_AObj h0 q1 q3 q5 q6 q9 q11 q13 q15 q16 q18 ad7 ad8 ad11 ad12 ad13, er_ATra h0 q1 q3 q5 q6 q9 q11 q13 q15 q16 q18 ad7 ad8 ad11 ad12 ad13]
  rfl
theorem ed_k0 (ca : Nat → ClassId) (h0 q1 q3 q5 q6 q9 q11 q13 q15 q16 q18 : Nat) (ad7 ad8 ad11 ad12 ad13 : Nat → Nat → Nat) : (k_Desk ca h0 q1 q3 q5 q6 q9 q11 q13 q15 q16 q18 ad7 ad8 ad11 ad12 ad13).Perm (ed_w (ed_ad0 h0 q1 q3 q5 q6 q9 q11 q13 q15 q16 q18 ad7 ad8 ad11 ad12 ad13) ca ed_s0) := by
  rw [ed_w0]
  have e : k_Desk ca h0 q1 q3 q5 q6 q9 q11 q13 q15 q16 q18 ad7 ad8 ad11 ad12 ad13 = [(h0, .inr (7, [.ref q1, .ref q3, .ref q5, .ref q9, .ref q11, .ref q13, .ref q16, .int 0, .int 0, .int 0, .int 0, .int 0])), (q1, .inl (ca 1, 4, .inr (.inr (.inr (.inr (ed_pf ad11 4))))))] ++ ([(q9, .inl (ca 4, 16, .inr (.inr (.inr (.inr (ed_pf ad12 16)))))), (q11, .inl (ca 5, 8, .inr (.inr (.inr (.inr (ed_pf ad13 8))))))] ++ ((([(q3, .inr (4, [.ref q5, .ref q6, .int (-1), .int (-1), .int 0])), (q5, .inl (ca 2, 8, .inr (.inr (.inr (.inr (ed_pf ad7 8)))))), (q6, .inl (ca 3, 8, .inr (.inr (.inr (.inr (ed_pf ad8 8))))))] ++ ed_po (fun a => k_Thr ca (a 0) (a 1) (a 2) (a 3)) ad7 8) ++ ed_po (fun a => k_Row8 ca (a 0) (a 1)) ad8 8) ++ ((k_Row8 ca q13 q15 ++ k_Row8 ca q16 q18) ++ (ed_po (fun a => k_Proc ca (a 0) (a 1) (a 2)) ad11 4 ++ (ed_po (fun a => k_Obj ca (a 0) (a 1) (a 2) (a 3) (a 4) (a 5) (a 6)) ad12 16 ++ ed_po (fun a => k_Tra ca (a 0)) ad13 8))))) := by
    unfold k_Desk k_Sched
    simp only [List.append_assoc, List.cons_append, List.nil_append]
  rw [e]
  exact List.Perm.append_left _ (List.perm_append_comm_assoc _ _ _)
def md_s0 : ed_S := fun k _ j => match k with
  | 3 => if j < 32 then -1 else 0
  | 31 => if j < 8 then -1 else 0
  | 44 => -1
  | 45 => -1
  | _ => 0
def md_a0 (h0 q1 q2 q3 q4 q5 q6 q7 q8 q9 q10 q11 q12 q13 q14 q15 q16 q17 q18 q19 q20 q21 q22 q23 q24 q25 q26 q27 q28 q29 q30 q31 q32 q33 q34 q35 q36 q37 q38 q39 q40 q41 q42 : Nat) : Nat → Nat := fun q => match q with
  | 0 => h0
  | 1 => q1
  | 2 => q2
  | 3 => q3
  | 4 => q4
  | 5 => q5
  | 6 => q6
  | 7 => q7
  | 8 => q8
  | 9 => q9
  | 10 => q10
  | 11 => q11
  | 12 => q12
  | 13 => q13
  | 14 => q14
  | 15 => q15
  | 16 => q16
  | 17 => q17
  | 18 => q18
  | 19 => q19
  | 20 => q20
  | 21 => q21
  | 22 => q22
  | 23 => q23
  | 24 => q24
  | 25 => q25
  | 26 => q26
  | 27 => q27
  | 28 => q28
  | 29 => q29
  | 30 => q30
  | 31 => q31
  | 32 => q32
  | 33 => q33
  | 34 => q34
  | 35 => q35
  | 36 => q36
  | 37 => q37
  | 38 => q38
  | 39 => q39
  | 40 => q40
  | 41 => q41
  | 42 => q42
  | _ => 0
set_option maxHeartbeats 40000000 in
set_option maxRecDepth 100000 in
theorem md_k0 (ca : Nat → ClassId) (h0 q1 q2 q3 q4 q5 q6 q7 q8 q9 q10 q11 q12 q13 q14 q15 q16 q17 q18 q19 q20 q21 q22 q23 q24 q25 q26 q27 q28 q29 q30 q31 q32 q33 q34 q35 q36 q37 q38 q39 q40 q41 q42 : Nat) : k_Mod ca h0 q1 q2 q3 q4 q5 q6 q7 q8 q9 q10 q11 q12 q13 q14 q15 q16 q17 q18 q19 q20 q21 q22 q23 q24 q25 q26 q27 q28 q29 q30 q31 q32 q33 q34 q35 q36 q37 q38 q39 q40 q41 q42 = md_w (md_a0 h0 q1 q2 q3 q4 q5 q6 q7 q8 q9 q10 q11 q12 q13 q14 q15 q16 q17 q18 q19 q20 q21 q22 q23 q24 q25 q26 q27 q28 q29 q30 q31 q32 q33 q34 q35 q36 q37 q38 q39 q40 q41 q42) ca md_s0 := by
  have hr : List.range 43 = [0, 1, 2, 3, 4, 5, 6, 7, 8, 9, 10, 11, 12, 13, 14, 15, 16, 17, 18, 19, 20, 21, 22, 23, 24, 25, 26, 27, 28, 29, 30, 31, 32, 33, 34, 35, 36, 37, 38, 39, 40, 41, 42] := by decide +kernel
  unfold md_w k_Mod
  rw [hr]
  simp only [List.map_cons, List.map_nil]
  rfl
