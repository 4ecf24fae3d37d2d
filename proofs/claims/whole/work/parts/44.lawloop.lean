theorem lw_31 (x : Int32) : 0 ≤ (x &&& 31).toInt ∧ (x &&& 31).toInt < 32 := by
  obtain ⟨j, hj, hx⟩ := pk_andE x (m := 31) 5 (by decide)
  rw [hx, nI_toInt (by omega)]
  omega
set_option maxHeartbeats 4000000 in
set_option maxRecDepth 100000 in
/-- THE LAW'S LOOP, over a simulation: open until the simulation is proved -/
theorem law_loop_open {p : Program} {l : Launch} {e : Env} {s : State} {m : MethodId} {below : List Frame} {meth : Method} {c : Code} {D : va_G} {ca : Nat → ClassId} {A : Nat → Prop} {b L : Nat} {xs : Nat → Int32} {ad ad2 : Nat → Nat} {S : Nat → ed_S → ed_S → Prop} (hSim : ed_Sim S) (B : ed_B p s m #[Value.ref b] meth c code "ExecutiveDeskLaw" 4 D ca) (hA : ∀ q : Nat, s.heap.size ≤ q → A q) (hX : va_X b L xs s s.heap) (hbl : b < s.heap.size) (hbA : ¬ A b) (hL : L ≤ 3072) (hr : meth.sig.returnType = ret) (hAr : ∀ q : Nat, A q → s.heap.size ≤ q) :
    ∀ (k n : Nat) (σ ρ : ed_S) (H : Heap) (locs : List Loc) (ls : Array Slot), L < 6 * (n + k) → S n σ ρ → va_P D vwCl (ed_w ad ca σ ++ md_w ad2 ca ρ) H → va_D A (ed_w ad ca σ ++ md_w ad2 ca ρ) → va_S A s.heap H locs → 6 * n ≤ 3078 → lv_has ls 4 [(0, .ref b), (1, .ref (ad (pDesk 0))), (2, .ref (ad2 (pMod 0))), (3, .int (nI (6 * n)))] → W p l e room_1 s m #[Value.ref b] below meth c H locs 234 1758 (lw_Z below #[Value.ref b] s) (F0 m 18 ls []) := by
  have hx := B.1
  have hb := B.2.1
  intro k
  induction k with
  | zero =>
    intro n σ ρ H locs ls hk hs hP hD hS hn hl
    refine lv_iload_n hx hb d_Law_law_18 rfl (lv_at hl 3 rfl) ?_
    refine lv_aload_n hx hb d_Law_law_19 rfl (lv_at hl 0 rfl) ?_
    refine va_slen hx hb hX hbl hbA hS d_Law_law_20 ?_
    refine lv_bipush (v := 6) hx hb d_Law_law_21 (by decide) ?_
    refine lv_isub hx hb d_Law_law_23 ?_
    refine lv_icmp_gt (tgt := 820) hx hb d_Law_law_24 (by decide) (fun c0 => ?_) (fun c0 => ?_)
    · refine lv_iconst (v := 1) hx hb d_Law_law_820 (by decide) ?_
      refine va_forget (fun q hq => hAr _ (hS.2.2 q hq)) ?_
      refine W.widen (k := 625647) (n := 7225306) (by decide) (by decide) ?_
      exact lw_ret hx hb hr B.2.2.2.2.2.2.1 d_Law_law_821
    · exact absurd (by rw [Int32.lt_iff_toInt_lt, nI_toInt (by omega)]; show (nI L - nI 6).toInt < _; rw [pk_sub_toInt (by omega) (by omega)]; omega) c0
  | succ k ih =>
    intro n σ ρ H locs ls hk hs hP hD hS hn hl
    refine lv_iload_n hx hb d_Law_law_18 rfl (lv_at hl 3 rfl) ?_
    refine lv_aload_n hx hb d_Law_law_19 rfl (lv_at hl 0 rfl) ?_
    refine va_slen hx hb hX hbl hbA hS d_Law_law_20 ?_
    refine lv_bipush (v := 6) hx hb d_Law_law_21 (by decide) ?_
    refine lv_isub hx hb d_Law_law_23 ?_
    refine lv_icmp_gt (tgt := 820) hx hb d_Law_law_24 (by decide) (fun c0 => ?_) (fun c0 => ?_)
    · refine lv_iconst (v := 1) hx hb d_Law_law_820 (by decide) ?_
      refine va_forget (fun q hq => hAr _ (hS.2.2 q hq)) ?_
      refine W.widen (k := 625647) (n := 7225306) (by decide) (by decide) ?_
      exact lw_ret hx hb hr B.2.2.2.2.2.2.1 d_Law_law_821
    · have hin : 6 * n + 6 ≤ L := by
        rcases Nat.lt_or_ge L (6 * n + 6) with q | q
        · exact absurd (by rw [Int32.lt_iff_toInt_lt, nI_toInt (by omega)]; show (nI L - nI 6).toInt < _; rw [pk_sub_toInt (by omega) (by omega)]; omega) c0
        · exact q
      have hn5 : n < 512 := by omega
      have kk : ∀ (σ2 ρ2 : ed_S), S (n + 1) σ2 ρ2 → ∀ (H : Heap) (locs : List Loc) (ls : Array Slot), va_P D vwCl (ed_w ad ca σ2 ++ md_w ad2 ca ρ2) H → va_D A (ed_w ad ca σ2 ++ md_w ad2 ca ρ2) → va_S A s.heap H locs → lv_has ls 4 [(0, .ref b), (1, .ref (ad (pDesk 0))), (2, .ref (ad2 (pMod 0))), (3, .int (nI (6 * n)))] → W p l e room_1 s m #[Value.ref b] below meth c H locs 234 1758 (lw_Z below #[Value.ref b] s) (F0 m 814 ls []) := by
        intro σ2 ρ2 hs2 H locs ls hP hD hS hl
        refine lv_iinc (v := nI (6 * (n + 1))) (lv' := [(3, .int (nI (6 * (n + 1)))), (0, .ref b), (1, .ref (ad (pDesk 0))), (2, .ref (ad2 (pMod 0)))]) hx hb d_Law_law_814 hl (k := 3) rfl (nI_add (6 * n) 6) (by decide) rfl (fun ls hl => ?_)
        refine lv_goto (tgt := 18) hx hb d_Law_law_817 (by decide) ?_
        exact ih (n + 1) σ2 ρ2 H locs ls (by omega) hs2 hP hD hS (by omega) (lv_sub hl [1, 2, 3, 0] rfl)
      refine lv_aload_n hx hb d_Law_law_27 rfl (lv_at hl 0 rfl) ?_
      refine lv_iload_n hx hb d_Law_law_28 rfl (lv_at hl 3 rfl) ?_
      refine lw_ld (k := 6 * n) hx hb hX hbl hbA hS hL rfl (by omega) d_Law_law_29 ?_
      refine lv_bipush (v := 31) hx hb d_Law_law_30 (by decide) ?_
      refine lv_iand hx hb d_Law_law_32 ?_
      rcases Decidable.em ((xs (6 * n) &&& 31) = 0) with c1 | c1
      · refine lv_tableIn (off := 95) (tgt := 128) hx hb d_Law_law_33 (by rw [c1]; decide) (by rw [c1]; decide) (by rw [c1]; rfl) (by decide) ?_
        obtain ⟨r, σ2, ρ2, hF, hG, hs2⟩ := hSim.2.2.1 n (xs (6 * n + 1)) σ ρ hn5 hs
        exact lw_case0 B hA hX hbl hbA hL hin hF hG (kk σ2 ρ2 hs2) H locs ls hP hD hS hl
      rcases Decidable.em ((xs (6 * n) &&& 31) = 1) with c2 | c2
      · refine lv_tableIn (off := 118) (tgt := 151) hx hb d_Law_law_33 (by rw [c2]; decide) (by rw [c2]; decide) (by rw [c2]; rfl) (by decide) ?_
        obtain ⟨r, σ2, ρ2, hF, hG, hs2⟩ := hSim.2.2.2.1 n (xs (6 * n + 1)) (xs (6 * n + 2)) σ ρ hn5 hs
        exact lw_case1 B hA hX hbl hbA hL hin hF hG (kk σ2 ρ2 hs2) H locs ls hP hD hS hl
      rcases Decidable.em ((xs (6 * n) &&& 31) = 2) with c3 | c3
      · refine lv_tableIn (off := 151) (tgt := 184) hx hb d_Law_law_33 (by rw [c3]; decide) (by rw [c3]; decide) (by rw [c3]; rfl) (by decide) ?_
        obtain ⟨r, σ2, ρ2, hF, hG, hs2⟩ := hSim.2.2.2.2.1 n (xs (6 * n + 1)) (xs (6 * n + 2)) (xs (6 * n + 3)) σ ρ hn5 hs
        exact lw_case2 B hA hX hbl hbA hL hin hF hG (kk σ2 ρ2 hs2) H locs ls hP hD hS hl
      rcases Decidable.em ((xs (6 * n) &&& 31) = 3) with c4 | c4
      · refine lv_tableIn (off := 194) (tgt := 227) hx hb d_Law_law_33 (by rw [c4]; decide) (by rw [c4]; decide) (by rw [c4]; rfl) (by decide) ?_
        obtain ⟨r, σ2, ρ2, hF, hG, hs2⟩ := hSim.2.2.2.2.2.1 n (xs (6 * n + 1)) (xs (6 * n + 2)) σ ρ hn5 hs
        exact lw_case3 B hA hX hbl hbA hL hin hF hG (kk σ2 ρ2 hs2) H locs ls hP hD hS hl
      rcases Decidable.em ((xs (6 * n) &&& 31) = 4) with c5 | c5
      · refine lv_tableIn (off := 227) (tgt := 260) hx hb d_Law_law_33 (by rw [c5]; decide) (by rw [c5]; decide) (by rw [c5]; rfl) (by decide) ?_
        obtain ⟨r, σ2, ρ2, hF, hG, hs2⟩ := hSim.2.2.2.2.2.2.1 n (xs (6 * n + 1)) σ ρ hn5 hs
        exact lw_case4 B hA hX hbl hbA hL hin hF hG (kk σ2 ρ2 hs2) H locs ls hP hD hS hl
      rcases Decidable.em ((xs (6 * n) &&& 31) = 5) with c6 | c6
      · refine lv_tableIn (off := 250) (tgt := 283) hx hb d_Law_law_33 (by rw [c6]; decide) (by rw [c6]; decide) (by rw [c6]; rfl) (by decide) ?_
        obtain ⟨r, σ2, ρ2, hF, hG, hs2⟩ := hSim.2.2.2.2.2.2.2.1 n (xs (6 * n + 1)) (xs (6 * n + 2)) (xs (6 * n + 3)) (xs (6 * n + 4)) σ ρ hn5 hs
        exact lw_case5 B hA hX hbl hbA hL hin hF hG (kk σ2 ρ2 hs2) H locs ls hP hD hS hl
      rcases Decidable.em ((xs (6 * n) &&& 31) = 6) with c7 | c7
      · refine lv_tableIn (off := 303) (tgt := 336) hx hb d_Law_law_33 (by rw [c7]; decide) (by rw [c7]; decide) (by rw [c7]; rfl) (by decide) ?_
        obtain ⟨r, σ2, ρ2, hF, hG, hs2⟩ := hSim.2.2.2.2.2.2.2.2.1 n (xs (6 * n + 1)) (xs (6 * n + 2)) σ ρ hn5 hs
        exact lw_case6 B hA hX hbl hbA hL hin hF hG (kk σ2 ρ2 hs2) H locs ls hP hD hS hl
      rcases Decidable.em ((xs (6 * n) &&& 31) = 7) with c8 | c8
      · refine lv_tableIn (off := 336) (tgt := 369) hx hb d_Law_law_33 (by rw [c8]; decide) (by rw [c8]; decide) (by rw [c8]; rfl) (by decide) ?_
        obtain ⟨r, σ2, ρ2, hF, hG, hs2⟩ := hSim.2.2.2.2.2.2.2.2.2.1 n (xs (6 * n + 1)) (xs (6 * n + 2)) (xs (6 * n + 3)) (xs (6 * n + 4)) (xs (6 * n + 5)) σ ρ hn5 hs
        exact lw_case7 B hA hX hbl hbA hL hin hF hG (kk σ2 ρ2 hs2) H locs ls hP hD hS hl
      rcases Decidable.em ((xs (6 * n) &&& 31) = 8) with c9 | c9
      · refine lv_tableIn (off := 399) (tgt := 432) hx hb d_Law_law_33 (by rw [c9]; decide) (by rw [c9]; decide) (by rw [c9]; rfl) (by decide) ?_
        obtain ⟨r, σ2, ρ2, hF, hG, hs2⟩ := hSim.2.2.2.2.2.2.2.2.2.2.1 n (xs (6 * n + 1)) (xs (6 * n + 2)) σ ρ hn5 hs
        exact lw_case8 B hA hX hbl hbA hL hin hF hG (kk σ2 ρ2 hs2) H locs ls hP hD hS hl
      rcases Decidable.em ((xs (6 * n) &&& 31) = 9) with c10 | c10
      · refine lv_tableIn (off := 432) (tgt := 465) hx hb d_Law_law_33 (by rw [c10]; decide) (by rw [c10]; decide) (by rw [c10]; rfl) (by decide) ?_
        obtain ⟨r, σ2, ρ2, hF, hG, hs2⟩ := hSim.2.2.2.2.2.2.2.2.2.2.2.1 n (xs (6 * n + 1)) σ ρ hn5 hs
        exact lw_case9 B hA hX hbl hbA hL hin hF hG (kk σ2 ρ2 hs2) H locs ls hP hD hS hl
      rcases Decidable.em ((xs (6 * n) &&& 31) = 10) with c11 | c11
      · refine lv_tableIn (off := 455) (tgt := 488) hx hb d_Law_law_33 (by rw [c11]; decide) (by rw [c11]; decide) (by rw [c11]; rfl) (by decide) ?_
        rcases Decidable.em (xs (6 * n + 2) = 0) with hz | hz
        · obtain ⟨r, σ2, ρ2, hF, hG, hs2⟩ := hSim.2.2.2.2.2.2.2.2.2.2.2.2.1 n (xs (6 * n + 1)) 0 σ ρ hn5 (by decide) hs
          exact lw_case10a B hA hX hbl hbA hL hin hz hF hG (kk σ2 ρ2 hs2) H locs ls hP hD hS hl
        · obtain ⟨r, σ2, ρ2, hF, hG, hs2⟩ := hSim.2.2.2.2.2.2.2.2.2.2.2.2.1 n (xs (6 * n + 1)) 1 σ ρ hn5 (by decide) hs
          exact lw_case10b B hA hX hbl hbA hL hin hz hF hG (kk σ2 ρ2 hs2) H locs ls hP hD hS hl
      rcases Decidable.em ((xs (6 * n) &&& 31) = 11) with c12 | c12
      · refine lv_tableIn (off := 504) (tgt := 537) hx hb d_Law_law_33 (by rw [c12]; decide) (by rw [c12]; decide) (by rw [c12]; rfl) (by decide) ?_
        obtain ⟨r, σ2, ρ2, hF, hG, hs2⟩ := hSim.2.2.2.2.2.2.2.2.2.2.2.2.2.1 n (xs (6 * n + 1)) (xs (6 * n + 2)) (xs (6 * n + 3)) (xs (6 * n + 4)) σ ρ hn5 hs
        exact lw_case11 B hA hX hbl hbA hL hin hF hG (kk σ2 ρ2 hs2) H locs ls hP hD hS hl
      rcases Decidable.em ((xs (6 * n) &&& 31) = 12) with c13 | c13
      · refine lv_tableIn (off := 557) (tgt := 590) hx hb d_Law_law_33 (by rw [c13]; decide) (by rw [c13]; decide) (by rw [c13]; rfl) (by decide) ?_
        obtain ⟨r, σ2, ρ2, hF, hG, hs2⟩ := hSim.2.2.2.2.2.2.2.2.2.2.2.2.2.2.1 n (xs (6 * n + 1)) σ ρ hn5 hs
        exact lw_case12 B hA hX hbl hbA hL hin hF hG (kk σ2 ρ2 hs2) H locs ls hP hD hS hl
      rcases Decidable.em ((xs (6 * n) &&& 31) = 13) with c14 | c14
      · refine lv_tableIn (off := 580) (tgt := 613) hx hb d_Law_law_33 (by rw [c14]; decide) (by rw [c14]; decide) (by rw [c14]; rfl) (by decide) ?_
        obtain ⟨r, σ2, ρ2, hF, hG, hs2⟩ := hSim.2.2.2.2.2.2.2.2.2.2.2.2.2.2.2.1 n  σ ρ hn5 hs
        exact lw_case13 B hA hX hbl hbA hL hin hF hG (kk σ2 ρ2 hs2) H locs ls hP hD hS hl
      rcases Decidable.em ((xs (6 * n) &&& 31) = 14) with c15 | c15
      · refine lv_tableIn (off := 593) (tgt := 626) hx hb d_Law_law_33 (by rw [c15]; decide) (by rw [c15]; decide) (by rw [c15]; rfl) (by decide) ?_
        obtain ⟨r, σ2, ρ2, hF, hG, hs2⟩ := hSim.2.2.2.2.2.2.2.2.2.2.2.2.2.2.2.2.1 n (xs (6 * n + 1)) σ ρ hn5 hs
        exact lw_case14 B hA hX hbl hbA hL hin hF hG (kk σ2 ρ2 hs2) H locs ls hP hD hS hl
      rcases Decidable.em ((xs (6 * n) &&& 31) = 15) with c16 | c16
      · refine lv_tableIn (off := 616) (tgt := 649) hx hb d_Law_law_33 (by rw [c16]; decide) (by rw [c16]; decide) (by rw [c16]; rfl) (by decide) ?_
        obtain ⟨r, σ2, ρ2, hF, hG, hs2⟩ := hSim.2.2.2.2.2.2.2.2.2.2.2.2.2.2.2.2.2.1 n (xs (6 * n + 1)) (xs (6 * n + 2)) σ ρ hn5 hs
        exact lw_case15 B hA hX hbl hbA hL hin hF hG (kk σ2 ρ2 hs2) H locs ls hP hD hS hl
      rcases Decidable.em ((xs (6 * n) &&& 31) = 16) with c17 | c17
      · refine lv_tableIn (off := 649) (tgt := 682) hx hb d_Law_law_33 (by rw [c17]; decide) (by rw [c17]; decide) (by rw [c17]; rfl) (by decide) ?_
        obtain ⟨r, σ2, ρ2, hF, hG, hs2⟩ := hSim.2.2.2.2.2.2.2.2.2.2.2.2.2.2.2.2.2.2.1 n (xs (6 * n + 1)) (xs (6 * n + 2)) σ ρ hn5 hs
        exact lw_case16 B hA hX hbl hbA hL hin hF hG (kk σ2 ρ2 hs2) H locs ls hP hD hS hl
      rcases Decidable.em ((xs (6 * n) &&& 31) = 17) with c18 | c18
      · refine lv_tableIn (off := 682) (tgt := 715) hx hb d_Law_law_33 (by rw [c18]; decide) (by rw [c18]; decide) (by rw [c18]; rfl) (by decide) ?_
        obtain ⟨r, σ2, ρ2, hF, hG, hs2⟩ := hSim.2.2.2.2.2.2.2.2.2.2.2.2.2.2.2.2.2.2.2.1 n (xs (6 * n + 1)) (xs (6 * n + 2)) σ ρ hn5 hs
        exact lw_case17 B hA hX hbl hbA hL hin hF hG (kk σ2 ρ2 hs2) H locs ls hP hD hS hl
      rcases Decidable.em ((xs (6 * n) &&& 31) = 18) with c19 | c19
      · refine lv_tableIn (off := 715) (tgt := 748) hx hb d_Law_law_33 (by rw [c19]; decide) (by rw [c19]; decide) (by rw [c19]; rfl) (by decide) ?_
        obtain ⟨r, σ2, ρ2, hF, hG, hs2⟩ := hSim.2.2.2.2.2.2.2.2.2.2.2.2.2.2.2.2.2.2.2.2.1 n (xs (6 * n + 1)) (xs (6 * n + 2)) (xs (6 * n + 3)) σ ρ hn5 hs
        exact lw_case18 B hA hX hbl hbA hL hin hF hG (kk σ2 ρ2 hs2) H locs ls hP hD hS hl
      rcases Decidable.em ((xs (6 * n) &&& 31) = 19) with c20 | c20
      · refine lv_tableIn (off := 758) (tgt := 791) hx hb d_Law_law_33 (by rw [c20]; decide) (by rw [c20]; decide) (by rw [c20]; rfl) (by decide) ?_
        obtain ⟨r, σ2, ρ2, hF, hG, hs2⟩ := hSim.2.2.2.2.2.2.2.2.2.2.2.2.2.2.2.2.2.2.2.2.2 n (xs (6 * n + 1)) σ ρ hn5 hs
        exact lw_case19 B hA hX hbl hbA hL hin hF hG (kk σ2 ρ2 hs2) H locs ls hP hD hS hl
      refine lv_tableOut (tgt := 814) hx hb d_Law_law_33 (by have qc1 := lv_neT (a := 0) c1 (by decide); have qc2 := lv_neT (a := 1) c2 (by decide); have qc3 := lv_neT (a := 2) c3 (by decide); have qc4 := lv_neT (a := 3) c4 (by decide); have qc5 := lv_neT (a := 4) c5 (by decide); have qc6 := lv_neT (a := 5) c6 (by decide); have qc7 := lv_neT (a := 6) c7 (by decide); have qc8 := lv_neT (a := 7) c8 (by decide); have qc9 := lv_neT (a := 8) c9 (by decide); have qc10 := lv_neT (a := 9) c10 (by decide); have qc11 := lv_neT (a := 10) c11 (by decide); have qc12 := lv_neT (a := 11) c12 (by decide); have qc13 := lv_neT (a := 12) c13 (by decide); have qc14 := lv_neT (a := 13) c14 (by decide); have qc15 := lv_neT (a := 14) c15 (by decide); have qc16 := lv_neT (a := 15) c16 (by decide); have qc17 := lv_neT (a := 16) c17 (by decide); have qc18 := lv_neT (a := 17) c18 (by decide); have qc19 := lv_neT (a := 18) c19 (by decide); have qc20 := lv_neT (a := 19) c20 (by decide); have w1 : 0 ≤ (xs (6 * n) &&& 31).toInt ∧ (xs (6 * n) &&& 31).toInt < 32 := lw_31 _; omega) (by decide) ?_
      exact kk σ ρ (hSim.2.1 n σ ρ hs) H locs ls hP hD hS hl
