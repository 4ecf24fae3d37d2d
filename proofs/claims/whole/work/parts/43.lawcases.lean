set_option maxHeartbeats 4000000 in
set_option maxRecDepth 100000 in
theorem lw_case0 {p : Program} {l : Launch} {e : Env} {s : State} {m : MethodId} {below : List Frame} {meth : Method} {c : Code} {D : va_G} {ca : Nat → ClassId} {A : Nat → Prop} {Q : State → Prop} {b L : Nat} {xs : Nat → Int32} {ad ad2 : Nat → Nat} (B : ed_B p s m #[Value.ref b] meth c code "ExecutiveDeskLaw" 4 D ca) (hA : ∀ q : Nat, s.heap.size ≤ q → A q) (hX : va_X b L xs s s.heap) (hbl : b < s.heap.size) (hbA : ¬ A b) (hL : L ≤ 3072) {n : Nat} (hn : 6 * n + 6 ≤ L) {σ ρ σ2 ρ2 : ed_S} {r : Int32} (hF : F_Desk_process (xs (6 * n + 1)) σ = some (r, σ2)) (hG : F_Mod_process (xs (6 * n + 1)) ρ = some (r, ρ2))
    (kk : ∀ (H : Heap) (locs : List Loc) (ls : Array Slot), va_P D vwCl (ed_w ad ca σ2 ++ md_w ad2 ca ρ2) H → va_D A (ed_w ad ca σ2 ++ md_w ad2 ca ρ2) → va_S A s.heap H locs → lv_has ls 4 [(0, .ref b), (1, .ref (ad (pDesk 0))), (2, .ref (ad2 (pMod 0))), (3, .int (nI (6 * n)))] → W p l e room_1 s m #[Value.ref b] below meth c H locs 234 1758 Q (F0 m 814 ls []))
    (H : Heap) (locs : List Loc) (ls : Array Slot) (hP : va_P D vwCl (ed_w ad ca σ ++ md_w ad2 ca ρ) H) (hD : va_D A (ed_w ad ca σ ++ md_w ad2 ca ρ)) (hS : va_S A s.heap H locs) (hl : lv_has ls 4 [(0, .ref b), (1, .ref (ad (pDesk 0))), (2, .ref (ad2 (pMod 0))), (3, .int (nI (6 * n)))]) : W p l e room_1 s m #[Value.ref b] below meth c H locs 234 1758 Q (F0 m 128 ls []) := by
  have hx := B.1
  have hb := B.2.1
  refine lv_aload_n hx hb d_Law_law_128 rfl (lv_at hl 1 rfl) ?_
  refine lv_aload_n hx hb d_Law_law_129 rfl (lv_at hl 0 rfl) ?_
  refine lv_iload_n hx hb d_Law_law_130 rfl (lv_at hl 3 rfl) ?_
  refine lv_iconst (v := 1) hx hb d_Law_law_131 (by decide) ?_
  refine lv_iadd hx hb d_Law_law_132 ?_
  refine lw_ld (k := 6 * n + 1) hx hb hX hbl hbA hS hL (nI_add (6 * n) 1) (by omega) d_Law_law_133 ?_
  refine lw_cI (w := (ed_w ad ca)) (wr := (md_w ad2 ca ρ)) (σ := σ) (As := [.int (xs (6 * n + 1))]) (rest := []) B hP hD hS hA (C_Desk_process l D ad ca (xs (6 * n + 1)) σ r σ2 hF) me_Desk_process mv_Desk_process L_Law_13 (ed_rc_Desk (i := 0) B (ed_pL hP) (by decide)) ⟨rfl, rfl⟩ ⟨Nat.le_of_ble_eq_true rfl, Nat.le_of_ble_eq_true rfl⟩ rfl rfl hl.1 (lv_room (Nat.le_of_ble_eq_true rfl)) d_Law_law_134 ⟨Nat.le_of_ble_eq_true rfl, Nat.le_of_ble_eq_true rfl⟩ (fun H locs hP hD hS => ?_)
  refine lv_aload_n hx hb d_Law_law_137 rfl (lv_at hl 2 rfl) ?_
  refine lv_aload_n hx hb d_Law_law_138 rfl (lv_at hl 0 rfl) ?_
  refine lv_iload_n hx hb d_Law_law_139 rfl (lv_at hl 3 rfl) ?_
  refine lv_iconst (v := 1) hx hb d_Law_law_140 (by decide) ?_
  refine lv_iadd hx hb d_Law_law_141 ?_
  refine lw_ld (k := 6 * n + 1) hx hb hX hbl hbA hS hL (nI_add (6 * n) 1) (by omega) d_Law_law_142 ?_
  refine lw_cI (w := (md_w ad2 ca)) (wr := (ed_w ad ca σ2)) (σ := ρ) (As := [.int (xs (6 * n + 1))]) (rest := [.int r]) B hP hD hS hA (C_Mod_process l D ad2 ca (xs (6 * n + 1)) ρ r ρ2 hG) me_Mod_process mv_Mod_process L_Law_17 (ed_rc_Mod (i := 0) B (ed_pL hP) (by decide)) ⟨rfl, rfl⟩ ⟨Nat.le_of_ble_eq_true rfl, Nat.le_of_ble_eq_true rfl⟩ rfl rfl hl.1 (lv_room (Nat.le_of_ble_eq_true rfl)) d_Law_law_143 ⟨Nat.le_of_ble_eq_true rfl, Nat.le_of_ble_eq_true rfl⟩ (fun H locs hP hD hS => ?_)
  refine lv_icmp_eq (tgt := 814) hx hb d_Law_law_146 (by decide) (fun c0 => ?_) (fun c0 => ?_)
  · exact kk H locs ls hP hD hS hl
  · exact absurd rfl c0
set_option maxHeartbeats 4000000 in
set_option maxRecDepth 100000 in
theorem lw_case1 {p : Program} {l : Launch} {e : Env} {s : State} {m : MethodId} {below : List Frame} {meth : Method} {c : Code} {D : va_G} {ca : Nat → ClassId} {A : Nat → Prop} {Q : State → Prop} {b L : Nat} {xs : Nat → Int32} {ad ad2 : Nat → Nat} (B : ed_B p s m #[Value.ref b] meth c code "ExecutiveDeskLaw" 4 D ca) (hA : ∀ q : Nat, s.heap.size ≤ q → A q) (hX : va_X b L xs s s.heap) (hbl : b < s.heap.size) (hbA : ¬ A b) (hL : L ≤ 3072) {n : Nat} (hn : 6 * n + 6 ≤ L) {σ ρ σ2 ρ2 : ed_S} {r : Int32} (hF : F_Desk_thread (xs (6 * n + 1)) (xs (6 * n + 2)) σ = some (r, σ2)) (hG : F_Mod_thread (xs (6 * n + 1)) (xs (6 * n + 2)) ρ = some (r, ρ2))
    (kk : ∀ (H : Heap) (locs : List Loc) (ls : Array Slot), va_P D vwCl (ed_w ad ca σ2 ++ md_w ad2 ca ρ2) H → va_D A (ed_w ad ca σ2 ++ md_w ad2 ca ρ2) → va_S A s.heap H locs → lv_has ls 4 [(0, .ref b), (1, .ref (ad (pDesk 0))), (2, .ref (ad2 (pMod 0))), (3, .int (nI (6 * n)))] → W p l e room_1 s m #[Value.ref b] below meth c H locs 234 1758 Q (F0 m 814 ls []))
    (H : Heap) (locs : List Loc) (ls : Array Slot) (hP : va_P D vwCl (ed_w ad ca σ ++ md_w ad2 ca ρ) H) (hD : va_D A (ed_w ad ca σ ++ md_w ad2 ca ρ)) (hS : va_S A s.heap H locs) (hl : lv_has ls 4 [(0, .ref b), (1, .ref (ad (pDesk 0))), (2, .ref (ad2 (pMod 0))), (3, .int (nI (6 * n)))]) : W p l e room_1 s m #[Value.ref b] below meth c H locs 234 1758 Q (F0 m 151 ls []) := by
  have hx := B.1
  have hb := B.2.1
  refine lv_aload_n hx hb d_Law_law_151 rfl (lv_at hl 1 rfl) ?_
  refine lv_aload_n hx hb d_Law_law_152 rfl (lv_at hl 0 rfl) ?_
  refine lv_iload_n hx hb d_Law_law_153 rfl (lv_at hl 3 rfl) ?_
  refine lv_iconst (v := 1) hx hb d_Law_law_154 (by decide) ?_
  refine lv_iadd hx hb d_Law_law_155 ?_
  refine lw_ld (k := 6 * n + 1) hx hb hX hbl hbA hS hL (nI_add (6 * n) 1) (by omega) d_Law_law_156 ?_
  refine lv_aload_n hx hb d_Law_law_157 rfl (lv_at hl 0 rfl) ?_
  refine lv_iload_n hx hb d_Law_law_158 rfl (lv_at hl 3 rfl) ?_
  refine lv_iconst (v := 2) hx hb d_Law_law_159 (by decide) ?_
  refine lv_iadd hx hb d_Law_law_160 ?_
  refine lw_ld (k := 6 * n + 2) hx hb hX hbl hbA hS hL (nI_add (6 * n) 2) (by omega) d_Law_law_161 ?_
  refine lw_cI (w := (ed_w ad ca)) (wr := (md_w ad2 ca ρ)) (σ := σ) (As := [.int (xs (6 * n + 1)), .int (xs (6 * n + 2))]) (rest := []) B hP hD hS hA (C_Desk_thread l D ad ca (xs (6 * n + 1)) (xs (6 * n + 2)) σ r σ2 hF) me_Desk_thread mv_Desk_thread L_Law_18 (ed_rc_Desk (i := 0) B (ed_pL hP) (by decide)) ⟨rfl, rfl⟩ ⟨Nat.le_of_ble_eq_true rfl, Nat.le_of_ble_eq_true rfl⟩ rfl rfl hl.1 (lv_room (Nat.le_of_ble_eq_true rfl)) d_Law_law_162 ⟨Nat.le_of_ble_eq_true rfl, Nat.le_of_ble_eq_true rfl⟩ (fun H locs hP hD hS => ?_)
  refine lv_aload_n hx hb d_Law_law_165 rfl (lv_at hl 2 rfl) ?_
  refine lv_aload_n hx hb d_Law_law_166 rfl (lv_at hl 0 rfl) ?_
  refine lv_iload_n hx hb d_Law_law_167 rfl (lv_at hl 3 rfl) ?_
  refine lv_iconst (v := 1) hx hb d_Law_law_168 (by decide) ?_
  refine lv_iadd hx hb d_Law_law_169 ?_
  refine lw_ld (k := 6 * n + 1) hx hb hX hbl hbA hS hL (nI_add (6 * n) 1) (by omega) d_Law_law_170 ?_
  refine lv_aload_n hx hb d_Law_law_171 rfl (lv_at hl 0 rfl) ?_
  refine lv_iload_n hx hb d_Law_law_172 rfl (lv_at hl 3 rfl) ?_
  refine lv_iconst (v := 2) hx hb d_Law_law_173 (by decide) ?_
  refine lv_iadd hx hb d_Law_law_174 ?_
  refine lw_ld (k := 6 * n + 2) hx hb hX hbl hbA hS hL (nI_add (6 * n) 2) (by omega) d_Law_law_175 ?_
  refine lw_cI (w := (md_w ad2 ca)) (wr := (ed_w ad ca σ2)) (σ := ρ) (As := [.int (xs (6 * n + 1)), .int (xs (6 * n + 2))]) (rest := [.int r]) B hP hD hS hA (C_Mod_thread l D ad2 ca (xs (6 * n + 1)) (xs (6 * n + 2)) ρ r ρ2 hG) me_Mod_thread mv_Mod_thread L_Law_22 (ed_rc_Mod (i := 0) B (ed_pL hP) (by decide)) ⟨rfl, rfl⟩ ⟨Nat.le_of_ble_eq_true rfl, Nat.le_of_ble_eq_true rfl⟩ rfl rfl hl.1 (lv_room (Nat.le_of_ble_eq_true rfl)) d_Law_law_176 ⟨Nat.le_of_ble_eq_true rfl, Nat.le_of_ble_eq_true rfl⟩ (fun H locs hP hD hS => ?_)
  refine lv_icmp_eq (tgt := 814) hx hb d_Law_law_179 (by decide) (fun c0 => ?_) (fun c0 => ?_)
  · exact kk H locs ls hP hD hS hl
  · exact absurd rfl c0
set_option maxHeartbeats 4000000 in
set_option maxRecDepth 100000 in
theorem lw_case2 {p : Program} {l : Launch} {e : Env} {s : State} {m : MethodId} {below : List Frame} {meth : Method} {c : Code} {D : va_G} {ca : Nat → ClassId} {A : Nat → Prop} {Q : State → Prop} {b L : Nat} {xs : Nat → Int32} {ad ad2 : Nat → Nat} (B : ed_B p s m #[Value.ref b] meth c code "ExecutiveDeskLaw" 4 D ca) (hA : ∀ q : Nat, s.heap.size ≤ q → A q) (hX : va_X b L xs s s.heap) (hbl : b < s.heap.size) (hbA : ¬ A b) (hL : L ≤ 3072) {n : Nat} (hn : 6 * n + 6 ≤ L) {σ ρ σ2 ρ2 : ed_S} {r : Int32} (hF : F_Desk_create (xs (6 * n + 1)) (xs (6 * n + 2)) (xs (6 * n + 3)) σ = some (r, σ2)) (hG : F_Mod_create (xs (6 * n + 1)) (xs (6 * n + 2)) (xs (6 * n + 3)) ρ = some (r, ρ2))
    (kk : ∀ (H : Heap) (locs : List Loc) (ls : Array Slot), va_P D vwCl (ed_w ad ca σ2 ++ md_w ad2 ca ρ2) H → va_D A (ed_w ad ca σ2 ++ md_w ad2 ca ρ2) → va_S A s.heap H locs → lv_has ls 4 [(0, .ref b), (1, .ref (ad (pDesk 0))), (2, .ref (ad2 (pMod 0))), (3, .int (nI (6 * n)))] → W p l e room_1 s m #[Value.ref b] below meth c H locs 234 1758 Q (F0 m 814 ls []))
    (H : Heap) (locs : List Loc) (ls : Array Slot) (hP : va_P D vwCl (ed_w ad ca σ ++ md_w ad2 ca ρ) H) (hD : va_D A (ed_w ad ca σ ++ md_w ad2 ca ρ)) (hS : va_S A s.heap H locs) (hl : lv_has ls 4 [(0, .ref b), (1, .ref (ad (pDesk 0))), (2, .ref (ad2 (pMod 0))), (3, .int (nI (6 * n)))]) : W p l e room_1 s m #[Value.ref b] below meth c H locs 234 1758 Q (F0 m 184 ls []) := by
  have hx := B.1
  have hb := B.2.1
  refine lv_aload_n hx hb d_Law_law_184 rfl (lv_at hl 1 rfl) ?_
  refine lv_aload_n hx hb d_Law_law_185 rfl (lv_at hl 0 rfl) ?_
  refine lv_iload_n hx hb d_Law_law_186 rfl (lv_at hl 3 rfl) ?_
  refine lv_iconst (v := 1) hx hb d_Law_law_187 (by decide) ?_
  refine lv_iadd hx hb d_Law_law_188 ?_
  refine lw_ld (k := 6 * n + 1) hx hb hX hbl hbA hS hL (nI_add (6 * n) 1) (by omega) d_Law_law_189 ?_
  refine lv_aload_n hx hb d_Law_law_190 rfl (lv_at hl 0 rfl) ?_
  refine lv_iload_n hx hb d_Law_law_191 rfl (lv_at hl 3 rfl) ?_
  refine lv_iconst (v := 2) hx hb d_Law_law_192 (by decide) ?_
  refine lv_iadd hx hb d_Law_law_193 ?_
  refine lw_ld (k := 6 * n + 2) hx hb hX hbl hbA hS hL (nI_add (6 * n) 2) (by omega) d_Law_law_194 ?_
  refine lv_aload_n hx hb d_Law_law_195 rfl (lv_at hl 0 rfl) ?_
  refine lv_iload_n hx hb d_Law_law_196 rfl (lv_at hl 3 rfl) ?_
  refine lv_iconst (v := 3) hx hb d_Law_law_197 (by decide) ?_
  refine lv_iadd hx hb d_Law_law_198 ?_
  refine lw_ld (k := 6 * n + 3) hx hb hX hbl hbA hS hL (nI_add (6 * n) 3) (by omega) d_Law_law_199 ?_
  refine lw_cI (w := (ed_w ad ca)) (wr := (md_w ad2 ca ρ)) (σ := σ) (As := [.int (xs (6 * n + 1)), .int (xs (6 * n + 2)), .int (xs (6 * n + 3))]) (rest := []) B hP hD hS hA (C_Desk_create l D ad ca (xs (6 * n + 1)) (xs (6 * n + 2)) (xs (6 * n + 3)) σ r σ2 hF) me_Desk_create mv_Desk_create L_Law_23 (ed_rc_Desk (i := 0) B (ed_pL hP) (by decide)) ⟨rfl, rfl⟩ ⟨Nat.le_of_ble_eq_true rfl, Nat.le_of_ble_eq_true rfl⟩ rfl rfl hl.1 (lv_room (Nat.le_of_ble_eq_true rfl)) d_Law_law_200 ⟨Nat.le_of_ble_eq_true rfl, Nat.le_of_ble_eq_true rfl⟩ (fun H locs hP hD hS => ?_)
  refine lv_aload_n hx hb d_Law_law_203 rfl (lv_at hl 2 rfl) ?_
  refine lv_aload_n hx hb d_Law_law_204 rfl (lv_at hl 0 rfl) ?_
  refine lv_iload_n hx hb d_Law_law_205 rfl (lv_at hl 3 rfl) ?_
  refine lv_iconst (v := 1) hx hb d_Law_law_206 (by decide) ?_
  refine lv_iadd hx hb d_Law_law_207 ?_
  refine lw_ld (k := 6 * n + 1) hx hb hX hbl hbA hS hL (nI_add (6 * n) 1) (by omega) d_Law_law_208 ?_
  refine lv_aload_n hx hb d_Law_law_209 rfl (lv_at hl 0 rfl) ?_
  refine lv_iload_n hx hb d_Law_law_210 rfl (lv_at hl 3 rfl) ?_
  refine lv_iconst (v := 2) hx hb d_Law_law_211 (by decide) ?_
  refine lv_iadd hx hb d_Law_law_212 ?_
  refine lw_ld (k := 6 * n + 2) hx hb hX hbl hbA hS hL (nI_add (6 * n) 2) (by omega) d_Law_law_213 ?_
  refine lv_aload_n hx hb d_Law_law_214 rfl (lv_at hl 0 rfl) ?_
  refine lv_iload_n hx hb d_Law_law_215 rfl (lv_at hl 3 rfl) ?_
  refine lv_iconst (v := 3) hx hb d_Law_law_216 (by decide) ?_
  refine lv_iadd hx hb d_Law_law_217 ?_
  refine lw_ld (k := 6 * n + 3) hx hb hX hbl hbA hS hL (nI_add (6 * n) 3) (by omega) d_Law_law_218 ?_
  refine lw_cI (w := (md_w ad2 ca)) (wr := (ed_w ad ca σ2)) (σ := ρ) (As := [.int (xs (6 * n + 1)), .int (xs (6 * n + 2)), .int (xs (6 * n + 3))]) (rest := [.int r]) B hP hD hS hA (C_Mod_create l D ad2 ca (xs (6 * n + 1)) (xs (6 * n + 2)) (xs (6 * n + 3)) ρ r ρ2 hG) me_Mod_create mv_Mod_create L_Law_27 (ed_rc_Mod (i := 0) B (ed_pL hP) (by decide)) ⟨rfl, rfl⟩ ⟨Nat.le_of_ble_eq_true rfl, Nat.le_of_ble_eq_true rfl⟩ rfl rfl hl.1 (lv_room (Nat.le_of_ble_eq_true rfl)) d_Law_law_219 ⟨Nat.le_of_ble_eq_true rfl, Nat.le_of_ble_eq_true rfl⟩ (fun H locs hP hD hS => ?_)
  refine lv_icmp_eq (tgt := 814) hx hb d_Law_law_222 (by decide) (fun c0 => ?_) (fun c0 => ?_)
  · exact kk H locs ls hP hD hS hl
  · exact absurd rfl c0
set_option maxHeartbeats 4000000 in
set_option maxRecDepth 100000 in
theorem lw_case3 {p : Program} {l : Launch} {e : Env} {s : State} {m : MethodId} {below : List Frame} {meth : Method} {c : Code} {D : va_G} {ca : Nat → ClassId} {A : Nat → Prop} {Q : State → Prop} {b L : Nat} {xs : Nat → Int32} {ad ad2 : Nat → Nat} (B : ed_B p s m #[Value.ref b] meth c code "ExecutiveDeskLaw" 4 D ca) (hA : ∀ q : Nat, s.heap.size ≤ q → A q) (hX : va_X b L xs s s.heap) (hbl : b < s.heap.size) (hbA : ¬ A b) (hL : L ≤ 3072) {n : Nat} (hn : 6 * n + 6 ≤ L) {σ ρ σ2 ρ2 : ed_S} {r : Int32} (hF : F_Desk_opn (xs (6 * n + 1)) (xs (6 * n + 2)) σ = some (r, σ2)) (hG : F_Mod_opn (xs (6 * n + 1)) (xs (6 * n + 2)) ρ = some (r, ρ2))
    (kk : ∀ (H : Heap) (locs : List Loc) (ls : Array Slot), va_P D vwCl (ed_w ad ca σ2 ++ md_w ad2 ca ρ2) H → va_D A (ed_w ad ca σ2 ++ md_w ad2 ca ρ2) → va_S A s.heap H locs → lv_has ls 4 [(0, .ref b), (1, .ref (ad (pDesk 0))), (2, .ref (ad2 (pMod 0))), (3, .int (nI (6 * n)))] → W p l e room_1 s m #[Value.ref b] below meth c H locs 234 1758 Q (F0 m 814 ls []))
    (H : Heap) (locs : List Loc) (ls : Array Slot) (hP : va_P D vwCl (ed_w ad ca σ ++ md_w ad2 ca ρ) H) (hD : va_D A (ed_w ad ca σ ++ md_w ad2 ca ρ)) (hS : va_S A s.heap H locs) (hl : lv_has ls 4 [(0, .ref b), (1, .ref (ad (pDesk 0))), (2, .ref (ad2 (pMod 0))), (3, .int (nI (6 * n)))]) : W p l e room_1 s m #[Value.ref b] below meth c H locs 234 1758 Q (F0 m 227 ls []) := by
  have hx := B.1
  have hb := B.2.1
  refine lv_aload_n hx hb d_Law_law_227 rfl (lv_at hl 1 rfl) ?_
  refine lv_aload_n hx hb d_Law_law_228 rfl (lv_at hl 0 rfl) ?_
  refine lv_iload_n hx hb d_Law_law_229 rfl (lv_at hl 3 rfl) ?_
  refine lv_iconst (v := 1) hx hb d_Law_law_230 (by decide) ?_
  refine lv_iadd hx hb d_Law_law_231 ?_
  refine lw_ld (k := 6 * n + 1) hx hb hX hbl hbA hS hL (nI_add (6 * n) 1) (by omega) d_Law_law_232 ?_
  refine lv_aload_n hx hb d_Law_law_233 rfl (lv_at hl 0 rfl) ?_
  refine lv_iload_n hx hb d_Law_law_234 rfl (lv_at hl 3 rfl) ?_
  refine lv_iconst (v := 2) hx hb d_Law_law_235 (by decide) ?_
  refine lv_iadd hx hb d_Law_law_236 ?_
  refine lw_ld (k := 6 * n + 2) hx hb hX hbl hbA hS hL (nI_add (6 * n) 2) (by omega) d_Law_law_237 ?_
  refine lw_cI (w := (ed_w ad ca)) (wr := (md_w ad2 ca ρ)) (σ := σ) (As := [.int (xs (6 * n + 1)), .int (xs (6 * n + 2))]) (rest := []) B hP hD hS hA (C_Desk_opn l D ad ca (xs (6 * n + 1)) (xs (6 * n + 2)) σ r σ2 hF) me_Desk_opn mv_Desk_opn L_Law_28 (ed_rc_Desk (i := 0) B (ed_pL hP) (by decide)) ⟨rfl, rfl⟩ ⟨Nat.le_of_ble_eq_true rfl, Nat.le_of_ble_eq_true rfl⟩ rfl rfl hl.1 (lv_room (Nat.le_of_ble_eq_true rfl)) d_Law_law_238 ⟨Nat.le_of_ble_eq_true rfl, Nat.le_of_ble_eq_true rfl⟩ (fun H locs hP hD hS => ?_)
  refine lv_aload_n hx hb d_Law_law_241 rfl (lv_at hl 2 rfl) ?_
  refine lv_aload_n hx hb d_Law_law_242 rfl (lv_at hl 0 rfl) ?_
  refine lv_iload_n hx hb d_Law_law_243 rfl (lv_at hl 3 rfl) ?_
  refine lv_iconst (v := 1) hx hb d_Law_law_244 (by decide) ?_
  refine lv_iadd hx hb d_Law_law_245 ?_
  refine lw_ld (k := 6 * n + 1) hx hb hX hbl hbA hS hL (nI_add (6 * n) 1) (by omega) d_Law_law_246 ?_
  refine lv_aload_n hx hb d_Law_law_247 rfl (lv_at hl 0 rfl) ?_
  refine lv_iload_n hx hb d_Law_law_248 rfl (lv_at hl 3 rfl) ?_
  refine lv_iconst (v := 2) hx hb d_Law_law_249 (by decide) ?_
  refine lv_iadd hx hb d_Law_law_250 ?_
  refine lw_ld (k := 6 * n + 2) hx hb hX hbl hbA hS hL (nI_add (6 * n) 2) (by omega) d_Law_law_251 ?_
  refine lw_cI (w := (md_w ad2 ca)) (wr := (ed_w ad ca σ2)) (σ := ρ) (As := [.int (xs (6 * n + 1)), .int (xs (6 * n + 2))]) (rest := [.int r]) B hP hD hS hA (C_Mod_opn l D ad2 ca (xs (6 * n + 1)) (xs (6 * n + 2)) ρ r ρ2 hG) me_Mod_opn mv_Mod_opn L_Law_31 (ed_rc_Mod (i := 0) B (ed_pL hP) (by decide)) ⟨rfl, rfl⟩ ⟨Nat.le_of_ble_eq_true rfl, Nat.le_of_ble_eq_true rfl⟩ rfl rfl hl.1 (lv_room (Nat.le_of_ble_eq_true rfl)) d_Law_law_252 ⟨Nat.le_of_ble_eq_true rfl, Nat.le_of_ble_eq_true rfl⟩ (fun H locs hP hD hS => ?_)
  refine lv_icmp_eq (tgt := 814) hx hb d_Law_law_255 (by decide) (fun c0 => ?_) (fun c0 => ?_)
  · exact kk H locs ls hP hD hS hl
  · exact absurd rfl c0
set_option maxHeartbeats 4000000 in
set_option maxRecDepth 100000 in
theorem lw_case4 {p : Program} {l : Launch} {e : Env} {s : State} {m : MethodId} {below : List Frame} {meth : Method} {c : Code} {D : va_G} {ca : Nat → ClassId} {A : Nat → Prop} {Q : State → Prop} {b L : Nat} {xs : Nat → Int32} {ad ad2 : Nat → Nat} (B : ed_B p s m #[Value.ref b] meth c code "ExecutiveDeskLaw" 4 D ca) (hA : ∀ q : Nat, s.heap.size ≤ q → A q) (hX : va_X b L xs s s.heap) (hbl : b < s.heap.size) (hbA : ¬ A b) (hL : L ≤ 3072) {n : Nat} (hn : 6 * n + 6 ≤ L) {σ ρ σ2 ρ2 : ed_S} {r : Int32} (hF : F_Desk_clse (xs (6 * n + 1)) σ = some (r, σ2)) (hG : F_Mod_clse (xs (6 * n + 1)) ρ = some (r, ρ2))
    (kk : ∀ (H : Heap) (locs : List Loc) (ls : Array Slot), va_P D vwCl (ed_w ad ca σ2 ++ md_w ad2 ca ρ2) H → va_D A (ed_w ad ca σ2 ++ md_w ad2 ca ρ2) → va_S A s.heap H locs → lv_has ls 4 [(0, .ref b), (1, .ref (ad (pDesk 0))), (2, .ref (ad2 (pMod 0))), (3, .int (nI (6 * n)))] → W p l e room_1 s m #[Value.ref b] below meth c H locs 234 1758 Q (F0 m 814 ls []))
    (H : Heap) (locs : List Loc) (ls : Array Slot) (hP : va_P D vwCl (ed_w ad ca σ ++ md_w ad2 ca ρ) H) (hD : va_D A (ed_w ad ca σ ++ md_w ad2 ca ρ)) (hS : va_S A s.heap H locs) (hl : lv_has ls 4 [(0, .ref b), (1, .ref (ad (pDesk 0))), (2, .ref (ad2 (pMod 0))), (3, .int (nI (6 * n)))]) : W p l e room_1 s m #[Value.ref b] below meth c H locs 234 1758 Q (F0 m 260 ls []) := by
  have hx := B.1
  have hb := B.2.1
  refine lv_aload_n hx hb d_Law_law_260 rfl (lv_at hl 1 rfl) ?_
  refine lv_aload_n hx hb d_Law_law_261 rfl (lv_at hl 0 rfl) ?_
  refine lv_iload_n hx hb d_Law_law_262 rfl (lv_at hl 3 rfl) ?_
  refine lv_iconst (v := 1) hx hb d_Law_law_263 (by decide) ?_
  refine lv_iadd hx hb d_Law_law_264 ?_
  refine lw_ld (k := 6 * n + 1) hx hb hX hbl hbA hS hL (nI_add (6 * n) 1) (by omega) d_Law_law_265 ?_
  refine lw_cI (w := (ed_w ad ca)) (wr := (md_w ad2 ca ρ)) (σ := σ) (As := [.int (xs (6 * n + 1))]) (rest := []) B hP hD hS hA (C_Desk_clse l D ad ca (xs (6 * n + 1)) σ r σ2 hF) me_Desk_clse mv_Desk_clse L_Law_32 (ed_rc_Desk (i := 0) B (ed_pL hP) (by decide)) ⟨rfl, rfl⟩ ⟨Nat.le_of_ble_eq_true rfl, Nat.le_of_ble_eq_true rfl⟩ rfl rfl hl.1 (lv_room (Nat.le_of_ble_eq_true rfl)) d_Law_law_266 ⟨Nat.le_of_ble_eq_true rfl, Nat.le_of_ble_eq_true rfl⟩ (fun H locs hP hD hS => ?_)
  refine lv_aload_n hx hb d_Law_law_269 rfl (lv_at hl 2 rfl) ?_
  refine lv_aload_n hx hb d_Law_law_270 rfl (lv_at hl 0 rfl) ?_
  refine lv_iload_n hx hb d_Law_law_271 rfl (lv_at hl 3 rfl) ?_
  refine lv_iconst (v := 1) hx hb d_Law_law_272 (by decide) ?_
  refine lv_iadd hx hb d_Law_law_273 ?_
  refine lw_ld (k := 6 * n + 1) hx hb hX hbl hbA hS hL (nI_add (6 * n) 1) (by omega) d_Law_law_274 ?_
  refine lw_cI (w := (md_w ad2 ca)) (wr := (ed_w ad ca σ2)) (σ := ρ) (As := [.int (xs (6 * n + 1))]) (rest := [.int r]) B hP hD hS hA (C_Mod_clse l D ad2 ca (xs (6 * n + 1)) ρ r ρ2 hG) me_Mod_clse mv_Mod_clse L_Law_35 (ed_rc_Mod (i := 0) B (ed_pL hP) (by decide)) ⟨rfl, rfl⟩ ⟨Nat.le_of_ble_eq_true rfl, Nat.le_of_ble_eq_true rfl⟩ rfl rfl hl.1 (lv_room (Nat.le_of_ble_eq_true rfl)) d_Law_law_275 ⟨Nat.le_of_ble_eq_true rfl, Nat.le_of_ble_eq_true rfl⟩ (fun H locs hP hD hS => ?_)
  refine lv_icmp_eq (tgt := 814) hx hb d_Law_law_278 (by decide) (fun c0 => ?_) (fun c0 => ?_)
  · exact kk H locs ls hP hD hS hl
  · exact absurd rfl c0
set_option maxHeartbeats 4000000 in
set_option maxRecDepth 100000 in
theorem lw_case5 {p : Program} {l : Launch} {e : Env} {s : State} {m : MethodId} {below : List Frame} {meth : Method} {c : Code} {D : va_G} {ca : Nat → ClassId} {A : Nat → Prop} {Q : State → Prop} {b L : Nat} {xs : Nat → Int32} {ad ad2 : Nat → Nat} (B : ed_B p s m #[Value.ref b] meth c code "ExecutiveDeskLaw" 4 D ca) (hA : ∀ q : Nat, s.heap.size ≤ q → A q) (hX : va_X b L xs s s.heap) (hbl : b < s.heap.size) (hbA : ¬ A b) (hL : L ≤ 3072) {n : Nat} (hn : 6 * n + 6 ≤ L) {σ ρ σ2 ρ2 : ed_S} {r : Int32} (hF : F_Desk_rule (xs (6 * n + 1)) (xs (6 * n + 2)) (xs (6 * n + 3)) (xs (6 * n + 4)) σ = some (r, σ2)) (hG : F_Mod_rule (xs (6 * n + 1)) (xs (6 * n + 2)) (xs (6 * n + 3)) (xs (6 * n + 4)) ρ = some (r, ρ2))
    (kk : ∀ (H : Heap) (locs : List Loc) (ls : Array Slot), va_P D vwCl (ed_w ad ca σ2 ++ md_w ad2 ca ρ2) H → va_D A (ed_w ad ca σ2 ++ md_w ad2 ca ρ2) → va_S A s.heap H locs → lv_has ls 4 [(0, .ref b), (1, .ref (ad (pDesk 0))), (2, .ref (ad2 (pMod 0))), (3, .int (nI (6 * n)))] → W p l e room_1 s m #[Value.ref b] below meth c H locs 234 1758 Q (F0 m 814 ls []))
    (H : Heap) (locs : List Loc) (ls : Array Slot) (hP : va_P D vwCl (ed_w ad ca σ ++ md_w ad2 ca ρ) H) (hD : va_D A (ed_w ad ca σ ++ md_w ad2 ca ρ)) (hS : va_S A s.heap H locs) (hl : lv_has ls 4 [(0, .ref b), (1, .ref (ad (pDesk 0))), (2, .ref (ad2 (pMod 0))), (3, .int (nI (6 * n)))]) : W p l e room_1 s m #[Value.ref b] below meth c H locs 234 1758 Q (F0 m 283 ls []) := by
  have hx := B.1
  have hb := B.2.1
  refine lv_aload_n hx hb d_Law_law_283 rfl (lv_at hl 1 rfl) ?_
  refine lv_aload_n hx hb d_Law_law_284 rfl (lv_at hl 0 rfl) ?_
  refine lv_iload_n hx hb d_Law_law_285 rfl (lv_at hl 3 rfl) ?_
  refine lv_iconst (v := 1) hx hb d_Law_law_286 (by decide) ?_
  refine lv_iadd hx hb d_Law_law_287 ?_
  refine lw_ld (k := 6 * n + 1) hx hb hX hbl hbA hS hL (nI_add (6 * n) 1) (by omega) d_Law_law_288 ?_
  refine lv_aload_n hx hb d_Law_law_289 rfl (lv_at hl 0 rfl) ?_
  refine lv_iload_n hx hb d_Law_law_290 rfl (lv_at hl 3 rfl) ?_
  refine lv_iconst (v := 2) hx hb d_Law_law_291 (by decide) ?_
  refine lv_iadd hx hb d_Law_law_292 ?_
  refine lw_ld (k := 6 * n + 2) hx hb hX hbl hbA hS hL (nI_add (6 * n) 2) (by omega) d_Law_law_293 ?_
  refine lv_aload_n hx hb d_Law_law_294 rfl (lv_at hl 0 rfl) ?_
  refine lv_iload_n hx hb d_Law_law_295 rfl (lv_at hl 3 rfl) ?_
  refine lv_iconst (v := 3) hx hb d_Law_law_296 (by decide) ?_
  refine lv_iadd hx hb d_Law_law_297 ?_
  refine lw_ld (k := 6 * n + 3) hx hb hX hbl hbA hS hL (nI_add (6 * n) 3) (by omega) d_Law_law_298 ?_
  refine lv_aload_n hx hb d_Law_law_299 rfl (lv_at hl 0 rfl) ?_
  refine lv_iload_n hx hb d_Law_law_300 rfl (lv_at hl 3 rfl) ?_
  refine lv_iconst (v := 4) hx hb d_Law_law_301 (by decide) ?_
  refine lv_iadd hx hb d_Law_law_302 ?_
  refine lw_ld (k := 6 * n + 4) hx hb hX hbl hbA hS hL (nI_add (6 * n) 4) (by omega) d_Law_law_303 ?_
  refine lw_cI (w := (ed_w ad ca)) (wr := (md_w ad2 ca ρ)) (σ := σ) (As := [.int (xs (6 * n + 1)), .int (xs (6 * n + 2)), .int (xs (6 * n + 3)), .int (xs (6 * n + 4))]) (rest := []) B hP hD hS hA (C_Desk_rule l D ad ca (xs (6 * n + 1)) (xs (6 * n + 2)) (xs (6 * n + 3)) (xs (6 * n + 4)) σ r σ2 hF) me_Desk_rule mv_Desk_rule L_Law_36 (ed_rc_Desk (i := 0) B (ed_pL hP) (by decide)) ⟨rfl, rfl⟩ ⟨Nat.le_of_ble_eq_true rfl, Nat.le_of_ble_eq_true rfl⟩ rfl rfl hl.1 (lv_room (Nat.le_of_ble_eq_true rfl)) d_Law_law_304 ⟨Nat.le_of_ble_eq_true rfl, Nat.le_of_ble_eq_true rfl⟩ (fun H locs hP hD hS => ?_)
  refine lv_aload_n hx hb d_Law_law_307 rfl (lv_at hl 2 rfl) ?_
  refine lv_aload_n hx hb d_Law_law_308 rfl (lv_at hl 0 rfl) ?_
  refine lv_iload_n hx hb d_Law_law_309 rfl (lv_at hl 3 rfl) ?_
  refine lv_iconst (v := 1) hx hb d_Law_law_310 (by decide) ?_
  refine lv_iadd hx hb d_Law_law_311 ?_
  refine lw_ld (k := 6 * n + 1) hx hb hX hbl hbA hS hL (nI_add (6 * n) 1) (by omega) d_Law_law_312 ?_
  refine lv_aload_n hx hb d_Law_law_313 rfl (lv_at hl 0 rfl) ?_
  refine lv_iload_n hx hb d_Law_law_314 rfl (lv_at hl 3 rfl) ?_
  refine lv_iconst (v := 2) hx hb d_Law_law_315 (by decide) ?_
  refine lv_iadd hx hb d_Law_law_316 ?_
  refine lw_ld (k := 6 * n + 2) hx hb hX hbl hbA hS hL (nI_add (6 * n) 2) (by omega) d_Law_law_317 ?_
  refine lv_aload_n hx hb d_Law_law_318 rfl (lv_at hl 0 rfl) ?_
  refine lv_iload_n hx hb d_Law_law_319 rfl (lv_at hl 3 rfl) ?_
  refine lv_iconst (v := 3) hx hb d_Law_law_320 (by decide) ?_
  refine lv_iadd hx hb d_Law_law_321 ?_
  refine lw_ld (k := 6 * n + 3) hx hb hX hbl hbA hS hL (nI_add (6 * n) 3) (by omega) d_Law_law_322 ?_
  refine lv_aload_n hx hb d_Law_law_323 rfl (lv_at hl 0 rfl) ?_
  refine lv_iload_n hx hb d_Law_law_324 rfl (lv_at hl 3 rfl) ?_
  refine lv_iconst (v := 4) hx hb d_Law_law_325 (by decide) ?_
  refine lv_iadd hx hb d_Law_law_326 ?_
  refine lw_ld (k := 6 * n + 4) hx hb hX hbl hbA hS hL (nI_add (6 * n) 4) (by omega) d_Law_law_327 ?_
  refine lw_cI (w := (md_w ad2 ca)) (wr := (ed_w ad ca σ2)) (σ := ρ) (As := [.int (xs (6 * n + 1)), .int (xs (6 * n + 2)), .int (xs (6 * n + 3)), .int (xs (6 * n + 4))]) (rest := [.int r]) B hP hD hS hA (C_Mod_rule l D ad2 ca (xs (6 * n + 1)) (xs (6 * n + 2)) (xs (6 * n + 3)) (xs (6 * n + 4)) ρ r ρ2 hG) me_Mod_rule mv_Mod_rule L_Law_40 (ed_rc_Mod (i := 0) B (ed_pL hP) (by decide)) ⟨rfl, rfl⟩ ⟨Nat.le_of_ble_eq_true rfl, Nat.le_of_ble_eq_true rfl⟩ rfl rfl hl.1 (lv_room (Nat.le_of_ble_eq_true rfl)) d_Law_law_328 ⟨Nat.le_of_ble_eq_true rfl, Nat.le_of_ble_eq_true rfl⟩ (fun H locs hP hD hS => ?_)
  refine lv_icmp_eq (tgt := 814) hx hb d_Law_law_331 (by decide) (fun c0 => ?_) (fun c0 => ?_)
  · exact kk H locs ls hP hD hS hl
  · exact absurd rfl c0
set_option maxHeartbeats 4000000 in
set_option maxRecDepth 100000 in
theorem lw_case6 {p : Program} {l : Launch} {e : Env} {s : State} {m : MethodId} {below : List Frame} {meth : Method} {c : Code} {D : va_G} {ca : Nat → ClassId} {A : Nat → Prop} {Q : State → Prop} {b L : Nat} {xs : Nat → Int32} {ad ad2 : Nat → Nat} (B : ed_B p s m #[Value.ref b] meth c code "ExecutiveDeskLaw" 4 D ca) (hA : ∀ q : Nat, s.heap.size ≤ q → A q) (hX : va_X b L xs s s.heap) (hbl : b < s.heap.size) (hbA : ¬ A b) (hL : L ≤ 3072) {n : Nat} (hn : 6 * n + 6 ≤ L) {σ ρ σ2 ρ2 : ed_S} {r : Int32} (hF : F_Desk_sett (xs (6 * n + 1)) (xs (6 * n + 2)) σ = some (r, σ2)) (hG : F_Mod_sett (xs (6 * n + 1)) (xs (6 * n + 2)) ρ = some (r, ρ2))
    (kk : ∀ (H : Heap) (locs : List Loc) (ls : Array Slot), va_P D vwCl (ed_w ad ca σ2 ++ md_w ad2 ca ρ2) H → va_D A (ed_w ad ca σ2 ++ md_w ad2 ca ρ2) → va_S A s.heap H locs → lv_has ls 4 [(0, .ref b), (1, .ref (ad (pDesk 0))), (2, .ref (ad2 (pMod 0))), (3, .int (nI (6 * n)))] → W p l e room_1 s m #[Value.ref b] below meth c H locs 234 1758 Q (F0 m 814 ls []))
    (H : Heap) (locs : List Loc) (ls : Array Slot) (hP : va_P D vwCl (ed_w ad ca σ ++ md_w ad2 ca ρ) H) (hD : va_D A (ed_w ad ca σ ++ md_w ad2 ca ρ)) (hS : va_S A s.heap H locs) (hl : lv_has ls 4 [(0, .ref b), (1, .ref (ad (pDesk 0))), (2, .ref (ad2 (pMod 0))), (3, .int (nI (6 * n)))]) : W p l e room_1 s m #[Value.ref b] below meth c H locs 234 1758 Q (F0 m 336 ls []) := by
  have hx := B.1
  have hb := B.2.1
  refine lv_aload_n hx hb d_Law_law_336 rfl (lv_at hl 1 rfl) ?_
  refine lv_aload_n hx hb d_Law_law_337 rfl (lv_at hl 0 rfl) ?_
  refine lv_iload_n hx hb d_Law_law_338 rfl (lv_at hl 3 rfl) ?_
  refine lv_iconst (v := 1) hx hb d_Law_law_339 (by decide) ?_
  refine lv_iadd hx hb d_Law_law_340 ?_
  refine lw_ld (k := 6 * n + 1) hx hb hX hbl hbA hS hL (nI_add (6 * n) 1) (by omega) d_Law_law_341 ?_
  refine lv_aload_n hx hb d_Law_law_342 rfl (lv_at hl 0 rfl) ?_
  refine lv_iload_n hx hb d_Law_law_343 rfl (lv_at hl 3 rfl) ?_
  refine lv_iconst (v := 2) hx hb d_Law_law_344 (by decide) ?_
  refine lv_iadd hx hb d_Law_law_345 ?_
  refine lw_ld (k := 6 * n + 2) hx hb hX hbl hbA hS hL (nI_add (6 * n) 2) (by omega) d_Law_law_346 ?_
  refine lw_cI (w := (ed_w ad ca)) (wr := (md_w ad2 ca ρ)) (σ := σ) (As := [.int (xs (6 * n + 1)), .int (xs (6 * n + 2))]) (rest := []) B hP hD hS hA (C_Desk_sett l D ad ca (xs (6 * n + 1)) (xs (6 * n + 2)) σ r σ2 hF) me_Desk_sett mv_Desk_sett L_Law_41 (ed_rc_Desk (i := 0) B (ed_pL hP) (by decide)) ⟨rfl, rfl⟩ ⟨Nat.le_of_ble_eq_true rfl, Nat.le_of_ble_eq_true rfl⟩ rfl rfl hl.1 (lv_room (Nat.le_of_ble_eq_true rfl)) d_Law_law_347 ⟨Nat.le_of_ble_eq_true rfl, Nat.le_of_ble_eq_true rfl⟩ (fun H locs hP hD hS => ?_)
  refine lv_aload_n hx hb d_Law_law_350 rfl (lv_at hl 2 rfl) ?_
  refine lv_aload_n hx hb d_Law_law_351 rfl (lv_at hl 0 rfl) ?_
  refine lv_iload_n hx hb d_Law_law_352 rfl (lv_at hl 3 rfl) ?_
  refine lv_iconst (v := 1) hx hb d_Law_law_353 (by decide) ?_
  refine lv_iadd hx hb d_Law_law_354 ?_
  refine lw_ld (k := 6 * n + 1) hx hb hX hbl hbA hS hL (nI_add (6 * n) 1) (by omega) d_Law_law_355 ?_
  refine lv_aload_n hx hb d_Law_law_356 rfl (lv_at hl 0 rfl) ?_
  refine lv_iload_n hx hb d_Law_law_357 rfl (lv_at hl 3 rfl) ?_
  refine lv_iconst (v := 2) hx hb d_Law_law_358 (by decide) ?_
  refine lv_iadd hx hb d_Law_law_359 ?_
  refine lw_ld (k := 6 * n + 2) hx hb hX hbl hbA hS hL (nI_add (6 * n) 2) (by omega) d_Law_law_360 ?_
  refine lw_cI (w := (md_w ad2 ca)) (wr := (ed_w ad ca σ2)) (σ := ρ) (As := [.int (xs (6 * n + 1)), .int (xs (6 * n + 2))]) (rest := [.int r]) B hP hD hS hA (C_Mod_sett l D ad2 ca (xs (6 * n + 1)) (xs (6 * n + 2)) ρ r ρ2 hG) me_Mod_sett mv_Mod_sett L_Law_44 (ed_rc_Mod (i := 0) B (ed_pL hP) (by decide)) ⟨rfl, rfl⟩ ⟨Nat.le_of_ble_eq_true rfl, Nat.le_of_ble_eq_true rfl⟩ rfl rfl hl.1 (lv_room (Nat.le_of_ble_eq_true rfl)) d_Law_law_361 ⟨Nat.le_of_ble_eq_true rfl, Nat.le_of_ble_eq_true rfl⟩ (fun H locs hP hD hS => ?_)
  refine lv_icmp_eq (tgt := 814) hx hb d_Law_law_364 (by decide) (fun c0 => ?_) (fun c0 => ?_)
  · exact kk H locs ls hP hD hS hl
  · exact absurd rfl c0
set_option maxHeartbeats 4000000 in
set_option maxRecDepth 100000 in
theorem lw_case7 {p : Program} {l : Launch} {e : Env} {s : State} {m : MethodId} {below : List Frame} {meth : Method} {c : Code} {D : va_G} {ca : Nat → ClassId} {A : Nat → Prop} {Q : State → Prop} {b L : Nat} {xs : Nat → Int32} {ad ad2 : Nat → Nat} (B : ed_B p s m #[Value.ref b] meth c code "ExecutiveDeskLaw" 4 D ca) (hA : ∀ q : Nat, s.heap.size ≤ q → A q) (hX : va_X b L xs s s.heap) (hbl : b < s.heap.size) (hbA : ¬ A b) (hL : L ≤ 3072) {n : Nat} (hn : 6 * n + 6 ≤ L) {σ ρ σ2 ρ2 : ed_S} {r : Int32} (hF : F_Desk_await (xs (6 * n + 1)) (xs (6 * n + 2)) (xs (6 * n + 3)) (xs (6 * n + 4)) (xs (6 * n + 5)) σ = some (r, σ2)) (hG : F_Mod_await (xs (6 * n + 1)) (xs (6 * n + 2)) (xs (6 * n + 3)) (xs (6 * n + 4)) (xs (6 * n + 5)) ρ = some (r, ρ2))
    (kk : ∀ (H : Heap) (locs : List Loc) (ls : Array Slot), va_P D vwCl (ed_w ad ca σ2 ++ md_w ad2 ca ρ2) H → va_D A (ed_w ad ca σ2 ++ md_w ad2 ca ρ2) → va_S A s.heap H locs → lv_has ls 4 [(0, .ref b), (1, .ref (ad (pDesk 0))), (2, .ref (ad2 (pMod 0))), (3, .int (nI (6 * n)))] → W p l e room_1 s m #[Value.ref b] below meth c H locs 234 1758 Q (F0 m 814 ls []))
    (H : Heap) (locs : List Loc) (ls : Array Slot) (hP : va_P D vwCl (ed_w ad ca σ ++ md_w ad2 ca ρ) H) (hD : va_D A (ed_w ad ca σ ++ md_w ad2 ca ρ)) (hS : va_S A s.heap H locs) (hl : lv_has ls 4 [(0, .ref b), (1, .ref (ad (pDesk 0))), (2, .ref (ad2 (pMod 0))), (3, .int (nI (6 * n)))]) : W p l e room_1 s m #[Value.ref b] below meth c H locs 234 1758 Q (F0 m 369 ls []) := by
  have hx := B.1
  have hb := B.2.1
  refine lv_aload_n hx hb d_Law_law_369 rfl (lv_at hl 1 rfl) ?_
  refine lv_aload_n hx hb d_Law_law_370 rfl (lv_at hl 0 rfl) ?_
  refine lv_iload_n hx hb d_Law_law_371 rfl (lv_at hl 3 rfl) ?_
  refine lv_iconst (v := 1) hx hb d_Law_law_372 (by decide) ?_
  refine lv_iadd hx hb d_Law_law_373 ?_
  refine lw_ld (k := 6 * n + 1) hx hb hX hbl hbA hS hL (nI_add (6 * n) 1) (by omega) d_Law_law_374 ?_
  refine lv_aload_n hx hb d_Law_law_375 rfl (lv_at hl 0 rfl) ?_
  refine lv_iload_n hx hb d_Law_law_376 rfl (lv_at hl 3 rfl) ?_
  refine lv_iconst (v := 2) hx hb d_Law_law_377 (by decide) ?_
  refine lv_iadd hx hb d_Law_law_378 ?_
  refine lw_ld (k := 6 * n + 2) hx hb hX hbl hbA hS hL (nI_add (6 * n) 2) (by omega) d_Law_law_379 ?_
  refine lv_aload_n hx hb d_Law_law_380 rfl (lv_at hl 0 rfl) ?_
  refine lv_iload_n hx hb d_Law_law_381 rfl (lv_at hl 3 rfl) ?_
  refine lv_iconst (v := 3) hx hb d_Law_law_382 (by decide) ?_
  refine lv_iadd hx hb d_Law_law_383 ?_
  refine lw_ld (k := 6 * n + 3) hx hb hX hbl hbA hS hL (nI_add (6 * n) 3) (by omega) d_Law_law_384 ?_
  refine lv_aload_n hx hb d_Law_law_385 rfl (lv_at hl 0 rfl) ?_
  refine lv_iload_n hx hb d_Law_law_386 rfl (lv_at hl 3 rfl) ?_
  refine lv_iconst (v := 4) hx hb d_Law_law_387 (by decide) ?_
  refine lv_iadd hx hb d_Law_law_388 ?_
  refine lw_ld (k := 6 * n + 4) hx hb hX hbl hbA hS hL (nI_add (6 * n) 4) (by omega) d_Law_law_389 ?_
  refine lv_aload_n hx hb d_Law_law_390 rfl (lv_at hl 0 rfl) ?_
  refine lv_iload_n hx hb d_Law_law_391 rfl (lv_at hl 3 rfl) ?_
  refine lv_iconst (v := 5) hx hb d_Law_law_392 (by decide) ?_
  refine lv_iadd hx hb d_Law_law_393 ?_
  refine lw_ld (k := 6 * n + 5) hx hb hX hbl hbA hS hL (nI_add (6 * n) 5) (by omega) d_Law_law_394 ?_
  refine lw_cI (w := (ed_w ad ca)) (wr := (md_w ad2 ca ρ)) (σ := σ) (As := [.int (xs (6 * n + 1)), .int (xs (6 * n + 2)), .int (xs (6 * n + 3)), .int (xs (6 * n + 4)), .int (xs (6 * n + 5))]) (rest := []) B hP hD hS hA (C_Desk_await l D ad ca (xs (6 * n + 1)) (xs (6 * n + 2)) (xs (6 * n + 3)) (xs (6 * n + 4)) (xs (6 * n + 5)) σ r σ2 hF) me_Desk_await mv_Desk_await L_Law_45 (ed_rc_Desk (i := 0) B (ed_pL hP) (by decide)) ⟨rfl, rfl⟩ ⟨Nat.le_of_ble_eq_true rfl, Nat.le_of_ble_eq_true rfl⟩ rfl rfl hl.1 (lv_room (Nat.le_of_ble_eq_true rfl)) d_Law_law_395 ⟨Nat.le_of_ble_eq_true rfl, Nat.le_of_ble_eq_true rfl⟩ (fun H locs hP hD hS => ?_)
  refine lv_aload_n hx hb d_Law_law_398 rfl (lv_at hl 2 rfl) ?_
  refine lv_aload_n hx hb d_Law_law_399 rfl (lv_at hl 0 rfl) ?_
  refine lv_iload_n hx hb d_Law_law_400 rfl (lv_at hl 3 rfl) ?_
  refine lv_iconst (v := 1) hx hb d_Law_law_401 (by decide) ?_
  refine lv_iadd hx hb d_Law_law_402 ?_
  refine lw_ld (k := 6 * n + 1) hx hb hX hbl hbA hS hL (nI_add (6 * n) 1) (by omega) d_Law_law_403 ?_
  refine lv_aload_n hx hb d_Law_law_404 rfl (lv_at hl 0 rfl) ?_
  refine lv_iload_n hx hb d_Law_law_405 rfl (lv_at hl 3 rfl) ?_
  refine lv_iconst (v := 2) hx hb d_Law_law_406 (by decide) ?_
  refine lv_iadd hx hb d_Law_law_407 ?_
  refine lw_ld (k := 6 * n + 2) hx hb hX hbl hbA hS hL (nI_add (6 * n) 2) (by omega) d_Law_law_408 ?_
  refine lv_aload_n hx hb d_Law_law_409 rfl (lv_at hl 0 rfl) ?_
  refine lv_iload_n hx hb d_Law_law_410 rfl (lv_at hl 3 rfl) ?_
  refine lv_iconst (v := 3) hx hb d_Law_law_411 (by decide) ?_
  refine lv_iadd hx hb d_Law_law_412 ?_
  refine lw_ld (k := 6 * n + 3) hx hb hX hbl hbA hS hL (nI_add (6 * n) 3) (by omega) d_Law_law_413 ?_
  refine lv_aload_n hx hb d_Law_law_414 rfl (lv_at hl 0 rfl) ?_
  refine lv_iload_n hx hb d_Law_law_415 rfl (lv_at hl 3 rfl) ?_
  refine lv_iconst (v := 4) hx hb d_Law_law_416 (by decide) ?_
  refine lv_iadd hx hb d_Law_law_417 ?_
  refine lw_ld (k := 6 * n + 4) hx hb hX hbl hbA hS hL (nI_add (6 * n) 4) (by omega) d_Law_law_418 ?_
  refine lv_aload_n hx hb d_Law_law_419 rfl (lv_at hl 0 rfl) ?_
  refine lv_iload_n hx hb d_Law_law_420 rfl (lv_at hl 3 rfl) ?_
  refine lv_iconst (v := 5) hx hb d_Law_law_421 (by decide) ?_
  refine lv_iadd hx hb d_Law_law_422 ?_
  refine lw_ld (k := 6 * n + 5) hx hb hX hbl hbA hS hL (nI_add (6 * n) 5) (by omega) d_Law_law_423 ?_
  refine lw_cI (w := (md_w ad2 ca)) (wr := (ed_w ad ca σ2)) (σ := ρ) (As := [.int (xs (6 * n + 1)), .int (xs (6 * n + 2)), .int (xs (6 * n + 3)), .int (xs (6 * n + 4)), .int (xs (6 * n + 5))]) (rest := [.int r]) B hP hD hS hA (C_Mod_await l D ad2 ca (xs (6 * n + 1)) (xs (6 * n + 2)) (xs (6 * n + 3)) (xs (6 * n + 4)) (xs (6 * n + 5)) ρ r ρ2 hG) me_Mod_await mv_Mod_await L_Law_49 (ed_rc_Mod (i := 0) B (ed_pL hP) (by decide)) ⟨rfl, rfl⟩ ⟨Nat.le_of_ble_eq_true rfl, Nat.le_of_ble_eq_true rfl⟩ rfl rfl hl.1 (lv_room (Nat.le_of_ble_eq_true rfl)) d_Law_law_424 ⟨Nat.le_of_ble_eq_true rfl, Nat.le_of_ble_eq_true rfl⟩ (fun H locs hP hD hS => ?_)
  refine lv_icmp_eq (tgt := 814) hx hb d_Law_law_427 (by decide) (fun c0 => ?_) (fun c0 => ?_)
  · exact kk H locs ls hP hD hS hl
  · exact absurd rfl c0
set_option maxHeartbeats 4000000 in
set_option maxRecDepth 100000 in
theorem lw_case8 {p : Program} {l : Launch} {e : Env} {s : State} {m : MethodId} {below : List Frame} {meth : Method} {c : Code} {D : va_G} {ca : Nat → ClassId} {A : Nat → Prop} {Q : State → Prop} {b L : Nat} {xs : Nat → Int32} {ad ad2 : Nat → Nat} (B : ed_B p s m #[Value.ref b] meth c code "ExecutiveDeskLaw" 4 D ca) (hA : ∀ q : Nat, s.heap.size ≤ q → A q) (hX : va_X b L xs s s.heap) (hbl : b < s.heap.size) (hbA : ¬ A b) (hL : L ≤ 3072) {n : Nat} (hn : 6 * n + 6 ≤ L) {σ ρ σ2 ρ2 : ed_S} {r : Int32} (hF : F_Desk_call (xs (6 * n + 1)) (xs (6 * n + 2)) σ = some (r, σ2)) (hG : F_Mod_call (xs (6 * n + 1)) (xs (6 * n + 2)) ρ = some (r, ρ2))
    (kk : ∀ (H : Heap) (locs : List Loc) (ls : Array Slot), va_P D vwCl (ed_w ad ca σ2 ++ md_w ad2 ca ρ2) H → va_D A (ed_w ad ca σ2 ++ md_w ad2 ca ρ2) → va_S A s.heap H locs → lv_has ls 4 [(0, .ref b), (1, .ref (ad (pDesk 0))), (2, .ref (ad2 (pMod 0))), (3, .int (nI (6 * n)))] → W p l e room_1 s m #[Value.ref b] below meth c H locs 234 1758 Q (F0 m 814 ls []))
    (H : Heap) (locs : List Loc) (ls : Array Slot) (hP : va_P D vwCl (ed_w ad ca σ ++ md_w ad2 ca ρ) H) (hD : va_D A (ed_w ad ca σ ++ md_w ad2 ca ρ)) (hS : va_S A s.heap H locs) (hl : lv_has ls 4 [(0, .ref b), (1, .ref (ad (pDesk 0))), (2, .ref (ad2 (pMod 0))), (3, .int (nI (6 * n)))]) : W p l e room_1 s m #[Value.ref b] below meth c H locs 234 1758 Q (F0 m 432 ls []) := by
  have hx := B.1
  have hb := B.2.1
  refine lv_aload_n hx hb d_Law_law_432 rfl (lv_at hl 1 rfl) ?_
  refine lv_aload_n hx hb d_Law_law_433 rfl (lv_at hl 0 rfl) ?_
  refine lv_iload_n hx hb d_Law_law_434 rfl (lv_at hl 3 rfl) ?_
  refine lv_iconst (v := 1) hx hb d_Law_law_435 (by decide) ?_
  refine lv_iadd hx hb d_Law_law_436 ?_
  refine lw_ld (k := 6 * n + 1) hx hb hX hbl hbA hS hL (nI_add (6 * n) 1) (by omega) d_Law_law_437 ?_
  refine lv_aload_n hx hb d_Law_law_438 rfl (lv_at hl 0 rfl) ?_
  refine lv_iload_n hx hb d_Law_law_439 rfl (lv_at hl 3 rfl) ?_
  refine lv_iconst (v := 2) hx hb d_Law_law_440 (by decide) ?_
  refine lv_iadd hx hb d_Law_law_441 ?_
  refine lw_ld (k := 6 * n + 2) hx hb hX hbl hbA hS hL (nI_add (6 * n) 2) (by omega) d_Law_law_442 ?_
  refine lw_cI (w := (ed_w ad ca)) (wr := (md_w ad2 ca ρ)) (σ := σ) (As := [.int (xs (6 * n + 1)), .int (xs (6 * n + 2))]) (rest := []) B hP hD hS hA (C_Desk_call l D ad ca (xs (6 * n + 1)) (xs (6 * n + 2)) σ r σ2 hF) me_Desk_call mv_Desk_call L_Law_50 (ed_rc_Desk (i := 0) B (ed_pL hP) (by decide)) ⟨rfl, rfl⟩ ⟨Nat.le_of_ble_eq_true rfl, Nat.le_of_ble_eq_true rfl⟩ rfl rfl hl.1 (lv_room (Nat.le_of_ble_eq_true rfl)) d_Law_law_443 ⟨Nat.le_of_ble_eq_true rfl, Nat.le_of_ble_eq_true rfl⟩ (fun H locs hP hD hS => ?_)
  refine lv_aload_n hx hb d_Law_law_446 rfl (lv_at hl 2 rfl) ?_
  refine lv_aload_n hx hb d_Law_law_447 rfl (lv_at hl 0 rfl) ?_
  refine lv_iload_n hx hb d_Law_law_448 rfl (lv_at hl 3 rfl) ?_
  refine lv_iconst (v := 1) hx hb d_Law_law_449 (by decide) ?_
  refine lv_iadd hx hb d_Law_law_450 ?_
  refine lw_ld (k := 6 * n + 1) hx hb hX hbl hbA hS hL (nI_add (6 * n) 1) (by omega) d_Law_law_451 ?_
  refine lv_aload_n hx hb d_Law_law_452 rfl (lv_at hl 0 rfl) ?_
  refine lv_iload_n hx hb d_Law_law_453 rfl (lv_at hl 3 rfl) ?_
  refine lv_iconst (v := 2) hx hb d_Law_law_454 (by decide) ?_
  refine lv_iadd hx hb d_Law_law_455 ?_
  refine lw_ld (k := 6 * n + 2) hx hb hX hbl hbA hS hL (nI_add (6 * n) 2) (by omega) d_Law_law_456 ?_
  refine lw_cI (w := (md_w ad2 ca)) (wr := (ed_w ad ca σ2)) (σ := ρ) (As := [.int (xs (6 * n + 1)), .int (xs (6 * n + 2))]) (rest := [.int r]) B hP hD hS hA (C_Mod_call l D ad2 ca (xs (6 * n + 1)) (xs (6 * n + 2)) ρ r ρ2 hG) me_Mod_call mv_Mod_call L_Law_53 (ed_rc_Mod (i := 0) B (ed_pL hP) (by decide)) ⟨rfl, rfl⟩ ⟨Nat.le_of_ble_eq_true rfl, Nat.le_of_ble_eq_true rfl⟩ rfl rfl hl.1 (lv_room (Nat.le_of_ble_eq_true rfl)) d_Law_law_457 ⟨Nat.le_of_ble_eq_true rfl, Nat.le_of_ble_eq_true rfl⟩ (fun H locs hP hD hS => ?_)
  refine lv_icmp_eq (tgt := 814) hx hb d_Law_law_460 (by decide) (fun c0 => ?_) (fun c0 => ?_)
  · exact kk H locs ls hP hD hS hl
  · exact absurd rfl c0
set_option maxHeartbeats 4000000 in
set_option maxRecDepth 100000 in
theorem lw_case9 {p : Program} {l : Launch} {e : Env} {s : State} {m : MethodId} {below : List Frame} {meth : Method} {c : Code} {D : va_G} {ca : Nat → ClassId} {A : Nat → Prop} {Q : State → Prop} {b L : Nat} {xs : Nat → Int32} {ad ad2 : Nat → Nat} (B : ed_B p s m #[Value.ref b] meth c code "ExecutiveDeskLaw" 4 D ca) (hA : ∀ q : Nat, s.heap.size ≤ q → A q) (hX : va_X b L xs s s.heap) (hbl : b < s.heap.size) (hbA : ¬ A b) (hL : L ≤ 3072) {n : Nat} (hn : 6 * n + 6 ≤ L) {σ ρ σ2 ρ2 : ed_S} {r : Int32} (hF : F_Desk_level (xs (6 * n + 1)) σ = some (r, σ2)) (hG : F_Mod_level (xs (6 * n + 1)) ρ = some (r, ρ2))
    (kk : ∀ (H : Heap) (locs : List Loc) (ls : Array Slot), va_P D vwCl (ed_w ad ca σ2 ++ md_w ad2 ca ρ2) H → va_D A (ed_w ad ca σ2 ++ md_w ad2 ca ρ2) → va_S A s.heap H locs → lv_has ls 4 [(0, .ref b), (1, .ref (ad (pDesk 0))), (2, .ref (ad2 (pMod 0))), (3, .int (nI (6 * n)))] → W p l e room_1 s m #[Value.ref b] below meth c H locs 234 1758 Q (F0 m 814 ls []))
    (H : Heap) (locs : List Loc) (ls : Array Slot) (hP : va_P D vwCl (ed_w ad ca σ ++ md_w ad2 ca ρ) H) (hD : va_D A (ed_w ad ca σ ++ md_w ad2 ca ρ)) (hS : va_S A s.heap H locs) (hl : lv_has ls 4 [(0, .ref b), (1, .ref (ad (pDesk 0))), (2, .ref (ad2 (pMod 0))), (3, .int (nI (6 * n)))]) : W p l e room_1 s m #[Value.ref b] below meth c H locs 234 1758 Q (F0 m 465 ls []) := by
  have hx := B.1
  have hb := B.2.1
  refine lv_aload_n hx hb d_Law_law_465 rfl (lv_at hl 1 rfl) ?_
  refine lv_aload_n hx hb d_Law_law_466 rfl (lv_at hl 0 rfl) ?_
  refine lv_iload_n hx hb d_Law_law_467 rfl (lv_at hl 3 rfl) ?_
  refine lv_iconst (v := 1) hx hb d_Law_law_468 (by decide) ?_
  refine lv_iadd hx hb d_Law_law_469 ?_
  refine lw_ld (k := 6 * n + 1) hx hb hX hbl hbA hS hL (nI_add (6 * n) 1) (by omega) d_Law_law_470 ?_
  refine lw_cI (w := (ed_w ad ca)) (wr := (md_w ad2 ca ρ)) (σ := σ) (As := [.int (xs (6 * n + 1))]) (rest := []) B hP hD hS hA (C_Desk_level l D ad ca (xs (6 * n + 1)) σ r σ2 hF) me_Desk_level mv_Desk_level L_Law_54 (ed_rc_Desk (i := 0) B (ed_pL hP) (by decide)) ⟨rfl, rfl⟩ ⟨Nat.le_of_ble_eq_true rfl, Nat.le_of_ble_eq_true rfl⟩ rfl rfl hl.1 (lv_room (Nat.le_of_ble_eq_true rfl)) d_Law_law_471 ⟨Nat.le_of_ble_eq_true rfl, Nat.le_of_ble_eq_true rfl⟩ (fun H locs hP hD hS => ?_)
  refine lv_aload_n hx hb d_Law_law_474 rfl (lv_at hl 2 rfl) ?_
  refine lv_aload_n hx hb d_Law_law_475 rfl (lv_at hl 0 rfl) ?_
  refine lv_iload_n hx hb d_Law_law_476 rfl (lv_at hl 3 rfl) ?_
  refine lv_iconst (v := 1) hx hb d_Law_law_477 (by decide) ?_
  refine lv_iadd hx hb d_Law_law_478 ?_
  refine lw_ld (k := 6 * n + 1) hx hb hX hbl hbA hS hL (nI_add (6 * n) 1) (by omega) d_Law_law_479 ?_
  refine lw_cI (w := (md_w ad2 ca)) (wr := (ed_w ad ca σ2)) (σ := ρ) (As := [.int (xs (6 * n + 1))]) (rest := [.int r]) B hP hD hS hA (C_Mod_level l D ad2 ca (xs (6 * n + 1)) ρ r ρ2 hG) me_Mod_level mv_Mod_level L_Law_57 (ed_rc_Mod (i := 0) B (ed_pL hP) (by decide)) ⟨rfl, rfl⟩ ⟨Nat.le_of_ble_eq_true rfl, Nat.le_of_ble_eq_true rfl⟩ rfl rfl hl.1 (lv_room (Nat.le_of_ble_eq_true rfl)) d_Law_law_480 ⟨Nat.le_of_ble_eq_true rfl, Nat.le_of_ble_eq_true rfl⟩ (fun H locs hP hD hS => ?_)
  refine lv_icmp_eq (tgt := 814) hx hb d_Law_law_483 (by decide) (fun c0 => ?_) (fun c0 => ?_)
  · exact kk H locs ls hP hD hS hl
  · exact absurd rfl c0
set_option maxHeartbeats 4000000 in
set_option maxRecDepth 100000 in
theorem lw_case10a {p : Program} {l : Launch} {e : Env} {s : State} {m : MethodId} {below : List Frame} {meth : Method} {c : Code} {D : va_G} {ca : Nat → ClassId} {A : Nat → Prop} {Q : State → Prop} {b L : Nat} {xs : Nat → Int32} {ad ad2 : Nat → Nat} (B : ed_B p s m #[Value.ref b] meth c code "ExecutiveDeskLaw" 4 D ca) (hA : ∀ q : Nat, s.heap.size ≤ q → A q) (hX : va_X b L xs s s.heap) (hbl : b < s.heap.size) (hbA : ¬ A b) (hL : L ≤ 3072) {n : Nat} (hn : 6 * n + 6 ≤ L) (hz : xs (6 * n + 2) = 0) {σ ρ σ2 ρ2 : ed_S} {r : Int32} (hF : F_Desk_interrupt (xs (6 * n + 1)) 0 σ = some (r, σ2)) (hG : F_Mod_interrupt (xs (6 * n + 1)) 0 ρ = some (r, ρ2))
    (kk : ∀ (H : Heap) (locs : List Loc) (ls : Array Slot), va_P D vwCl (ed_w ad ca σ2 ++ md_w ad2 ca ρ2) H → va_D A (ed_w ad ca σ2 ++ md_w ad2 ca ρ2) → va_S A s.heap H locs → lv_has ls 4 [(0, .ref b), (1, .ref (ad (pDesk 0))), (2, .ref (ad2 (pMod 0))), (3, .int (nI (6 * n)))] → W p l e room_1 s m #[Value.ref b] below meth c H locs 234 1758 Q (F0 m 814 ls []))
    (H : Heap) (locs : List Loc) (ls : Array Slot) (hP : va_P D vwCl (ed_w ad ca σ ++ md_w ad2 ca ρ) H) (hD : va_D A (ed_w ad ca σ ++ md_w ad2 ca ρ)) (hS : va_S A s.heap H locs) (hl : lv_has ls 4 [(0, .ref b), (1, .ref (ad (pDesk 0))), (2, .ref (ad2 (pMod 0))), (3, .int (nI (6 * n)))]) : W p l e room_1 s m #[Value.ref b] below meth c H locs 234 1758 Q (F0 m 488 ls []) := by
  have hx := B.1
  have hb := B.2.1
  refine lv_aload_n hx hb d_Law_law_488 rfl (lv_at hl 1 rfl) ?_
  refine lv_aload_n hx hb d_Law_law_489 rfl (lv_at hl 0 rfl) ?_
  refine lv_iload_n hx hb d_Law_law_490 rfl (lv_at hl 3 rfl) ?_
  refine lv_iconst (v := 1) hx hb d_Law_law_491 (by decide) ?_
  refine lv_iadd hx hb d_Law_law_492 ?_
  refine lw_ld (k := 6 * n + 1) hx hb hX hbl hbA hS hL (nI_add (6 * n) 1) (by omega) d_Law_law_493 ?_
  refine lv_aload_n hx hb d_Law_law_494 rfl (lv_at hl 0 rfl) ?_
  refine lv_iload_n hx hb d_Law_law_495 rfl (lv_at hl 3 rfl) ?_
  refine lv_iconst (v := 2) hx hb d_Law_law_496 (by decide) ?_
  refine lv_iadd hx hb d_Law_law_497 ?_
  refine lw_ld (k := 6 * n + 2) hx hb hX hbl hbA hS hL (nI_add (6 * n) 2) (by omega) d_Law_law_498 ?_
  refine lv_if_eq (tgt := 506) hx hb d_Law_law_499 (by decide) (fun c0 => ?_) (fun c0 => ?_)
  rotate_left
  · exact absurd hz c0
  refine lv_iconst (v := 0) hx hb d_Law_law_506 (by decide) ?_
  refine lw_cI (w := (ed_w ad ca)) (wr := (md_w ad2 ca ρ)) (σ := σ) (As := [.int (xs (6 * n + 1)), .int 0]) (rest := []) B hP hD hS hA (C_Desk_interrupt l D ad ca (xs (6 * n + 1)) 0 σ r σ2 hF) me_Desk_interrupt mv_Desk_interrupt L_Law_58 (ed_rc_Desk (i := 0) B (ed_pL hP) (by decide)) ⟨rfl, rfl⟩ ⟨Nat.le_of_ble_eq_true rfl, Nat.le_of_ble_eq_true rfl⟩ rfl rfl hl.1 (lv_room (Nat.le_of_ble_eq_true rfl)) d_Law_law_507 ⟨Nat.le_of_ble_eq_true rfl, Nat.le_of_ble_eq_true rfl⟩ (fun H locs hP hD hS => ?_)
  refine lv_aload_n hx hb d_Law_law_510 rfl (lv_at hl 2 rfl) ?_
  refine lv_aload_n hx hb d_Law_law_511 rfl (lv_at hl 0 rfl) ?_
  refine lv_iload_n hx hb d_Law_law_512 rfl (lv_at hl 3 rfl) ?_
  refine lv_iconst (v := 1) hx hb d_Law_law_513 (by decide) ?_
  refine lv_iadd hx hb d_Law_law_514 ?_
  refine lw_ld (k := 6 * n + 1) hx hb hX hbl hbA hS hL (nI_add (6 * n) 1) (by omega) d_Law_law_515 ?_
  refine lv_aload_n hx hb d_Law_law_516 rfl (lv_at hl 0 rfl) ?_
  refine lv_iload_n hx hb d_Law_law_517 rfl (lv_at hl 3 rfl) ?_
  refine lv_iconst (v := 2) hx hb d_Law_law_518 (by decide) ?_
  refine lv_iadd hx hb d_Law_law_519 ?_
  refine lw_ld (k := 6 * n + 2) hx hb hX hbl hbA hS hL (nI_add (6 * n) 2) (by omega) d_Law_law_520 ?_
  refine lv_if_eq (tgt := 528) hx hb d_Law_law_521 (by decide) (fun c0 => ?_) (fun c0 => ?_)
  rotate_left
  · exact absurd hz c0
  refine lv_iconst (v := 0) hx hb d_Law_law_528 (by decide) ?_
  refine lw_cI (w := (md_w ad2 ca)) (wr := (ed_w ad ca σ2)) (σ := ρ) (As := [.int (xs (6 * n + 1)), .int 0]) (rest := [.int r]) B hP hD hS hA (C_Mod_interrupt l D ad2 ca (xs (6 * n + 1)) 0 ρ r ρ2 hG) me_Mod_interrupt mv_Mod_interrupt L_Law_62 (ed_rc_Mod (i := 0) B (ed_pL hP) (by decide)) ⟨rfl, rfl⟩ ⟨Nat.le_of_ble_eq_true rfl, Nat.le_of_ble_eq_true rfl⟩ rfl rfl hl.1 (lv_room (Nat.le_of_ble_eq_true rfl)) d_Law_law_529 ⟨Nat.le_of_ble_eq_true rfl, Nat.le_of_ble_eq_true rfl⟩ (fun H locs hP hD hS => ?_)
  refine lv_icmp_eq (tgt := 814) hx hb d_Law_law_532 (by decide) (fun c0 => ?_) (fun c0 => ?_)
  · exact kk H locs ls hP hD hS hl
  · exact absurd rfl c0
set_option maxHeartbeats 4000000 in
set_option maxRecDepth 100000 in
theorem lw_case10b {p : Program} {l : Launch} {e : Env} {s : State} {m : MethodId} {below : List Frame} {meth : Method} {c : Code} {D : va_G} {ca : Nat → ClassId} {A : Nat → Prop} {Q : State → Prop} {b L : Nat} {xs : Nat → Int32} {ad ad2 : Nat → Nat} (B : ed_B p s m #[Value.ref b] meth c code "ExecutiveDeskLaw" 4 D ca) (hA : ∀ q : Nat, s.heap.size ≤ q → A q) (hX : va_X b L xs s s.heap) (hbl : b < s.heap.size) (hbA : ¬ A b) (hL : L ≤ 3072) {n : Nat} (hn : 6 * n + 6 ≤ L) (hz : ¬ xs (6 * n + 2) = 0) {σ ρ σ2 ρ2 : ed_S} {r : Int32} (hF : F_Desk_interrupt (xs (6 * n + 1)) 1 σ = some (r, σ2)) (hG : F_Mod_interrupt (xs (6 * n + 1)) 1 ρ = some (r, ρ2))
    (kk : ∀ (H : Heap) (locs : List Loc) (ls : Array Slot), va_P D vwCl (ed_w ad ca σ2 ++ md_w ad2 ca ρ2) H → va_D A (ed_w ad ca σ2 ++ md_w ad2 ca ρ2) → va_S A s.heap H locs → lv_has ls 4 [(0, .ref b), (1, .ref (ad (pDesk 0))), (2, .ref (ad2 (pMod 0))), (3, .int (nI (6 * n)))] → W p l e room_1 s m #[Value.ref b] below meth c H locs 234 1758 Q (F0 m 814 ls []))
    (H : Heap) (locs : List Loc) (ls : Array Slot) (hP : va_P D vwCl (ed_w ad ca σ ++ md_w ad2 ca ρ) H) (hD : va_D A (ed_w ad ca σ ++ md_w ad2 ca ρ)) (hS : va_S A s.heap H locs) (hl : lv_has ls 4 [(0, .ref b), (1, .ref (ad (pDesk 0))), (2, .ref (ad2 (pMod 0))), (3, .int (nI (6 * n)))]) : W p l e room_1 s m #[Value.ref b] below meth c H locs 234 1758 Q (F0 m 488 ls []) := by
  have hx := B.1
  have hb := B.2.1
  refine lv_aload_n hx hb d_Law_law_488 rfl (lv_at hl 1 rfl) ?_
  refine lv_aload_n hx hb d_Law_law_489 rfl (lv_at hl 0 rfl) ?_
  refine lv_iload_n hx hb d_Law_law_490 rfl (lv_at hl 3 rfl) ?_
  refine lv_iconst (v := 1) hx hb d_Law_law_491 (by decide) ?_
  refine lv_iadd hx hb d_Law_law_492 ?_
  refine lw_ld (k := 6 * n + 1) hx hb hX hbl hbA hS hL (nI_add (6 * n) 1) (by omega) d_Law_law_493 ?_
  refine lv_aload_n hx hb d_Law_law_494 rfl (lv_at hl 0 rfl) ?_
  refine lv_iload_n hx hb d_Law_law_495 rfl (lv_at hl 3 rfl) ?_
  refine lv_iconst (v := 2) hx hb d_Law_law_496 (by decide) ?_
  refine lv_iadd hx hb d_Law_law_497 ?_
  refine lw_ld (k := 6 * n + 2) hx hb hX hbl hbA hS hL (nI_add (6 * n) 2) (by omega) d_Law_law_498 ?_
  refine lv_if_eq (tgt := 506) hx hb d_Law_law_499 (by decide) (fun c0 => ?_) (fun c0 => ?_)
  · exact absurd c0 hz
  refine lv_iconst (v := 1) hx hb d_Law_law_502 (by decide) ?_
  refine lv_goto (tgt := 507) hx hb d_Law_law_503 (by decide) ?_
  refine lw_cI (w := (ed_w ad ca)) (wr := (md_w ad2 ca ρ)) (σ := σ) (As := [.int (xs (6 * n + 1)), .int 1]) (rest := []) B hP hD hS hA (C_Desk_interrupt l D ad ca (xs (6 * n + 1)) 1 σ r σ2 hF) me_Desk_interrupt mv_Desk_interrupt L_Law_58 (ed_rc_Desk (i := 0) B (ed_pL hP) (by decide)) ⟨rfl, rfl⟩ ⟨Nat.le_of_ble_eq_true rfl, Nat.le_of_ble_eq_true rfl⟩ rfl rfl hl.1 (lv_room (Nat.le_of_ble_eq_true rfl)) d_Law_law_507 ⟨Nat.le_of_ble_eq_true rfl, Nat.le_of_ble_eq_true rfl⟩ (fun H locs hP hD hS => ?_)
  refine lv_aload_n hx hb d_Law_law_510 rfl (lv_at hl 2 rfl) ?_
  refine lv_aload_n hx hb d_Law_law_511 rfl (lv_at hl 0 rfl) ?_
  refine lv_iload_n hx hb d_Law_law_512 rfl (lv_at hl 3 rfl) ?_
  refine lv_iconst (v := 1) hx hb d_Law_law_513 (by decide) ?_
  refine lv_iadd hx hb d_Law_law_514 ?_
  refine lw_ld (k := 6 * n + 1) hx hb hX hbl hbA hS hL (nI_add (6 * n) 1) (by omega) d_Law_law_515 ?_
  refine lv_aload_n hx hb d_Law_law_516 rfl (lv_at hl 0 rfl) ?_
  refine lv_iload_n hx hb d_Law_law_517 rfl (lv_at hl 3 rfl) ?_
  refine lv_iconst (v := 2) hx hb d_Law_law_518 (by decide) ?_
  refine lv_iadd hx hb d_Law_law_519 ?_
  refine lw_ld (k := 6 * n + 2) hx hb hX hbl hbA hS hL (nI_add (6 * n) 2) (by omega) d_Law_law_520 ?_
  refine lv_if_eq (tgt := 528) hx hb d_Law_law_521 (by decide) (fun c0 => ?_) (fun c0 => ?_)
  · exact absurd c0 hz
  refine lv_iconst (v := 1) hx hb d_Law_law_524 (by decide) ?_
  refine lv_goto (tgt := 529) hx hb d_Law_law_525 (by decide) ?_
  refine lw_cI (w := (md_w ad2 ca)) (wr := (ed_w ad ca σ2)) (σ := ρ) (As := [.int (xs (6 * n + 1)), .int 1]) (rest := [.int r]) B hP hD hS hA (C_Mod_interrupt l D ad2 ca (xs (6 * n + 1)) 1 ρ r ρ2 hG) me_Mod_interrupt mv_Mod_interrupt L_Law_62 (ed_rc_Mod (i := 0) B (ed_pL hP) (by decide)) ⟨rfl, rfl⟩ ⟨Nat.le_of_ble_eq_true rfl, Nat.le_of_ble_eq_true rfl⟩ rfl rfl hl.1 (lv_room (Nat.le_of_ble_eq_true rfl)) d_Law_law_529 ⟨Nat.le_of_ble_eq_true rfl, Nat.le_of_ble_eq_true rfl⟩ (fun H locs hP hD hS => ?_)
  refine lv_icmp_eq (tgt := 814) hx hb d_Law_law_532 (by decide) (fun c0 => ?_) (fun c0 => ?_)
  · exact kk H locs ls hP hD hS hl
  · exact absurd rfl c0
set_option maxHeartbeats 4000000 in
set_option maxRecDepth 100000 in
theorem lw_case11 {p : Program} {l : Launch} {e : Env} {s : State} {m : MethodId} {below : List Frame} {meth : Method} {c : Code} {D : va_G} {ca : Nat → ClassId} {A : Nat → Prop} {Q : State → Prop} {b L : Nat} {xs : Nat → Int32} {ad ad2 : Nat → Nat} (B : ed_B p s m #[Value.ref b] meth c code "ExecutiveDeskLaw" 4 D ca) (hA : ∀ q : Nat, s.heap.size ≤ q → A q) (hX : va_X b L xs s s.heap) (hbl : b < s.heap.size) (hbA : ¬ A b) (hL : L ≤ 3072) {n : Nat} (hn : 6 * n + 6 ≤ L) {σ ρ σ2 ρ2 : ed_S} {r : Int32} (hF : F_Desk_transfer (xs (6 * n + 1)) (xs (6 * n + 2)) (xs (6 * n + 3)) (xs (6 * n + 4)) σ = some (r, σ2)) (hG : F_Mod_transfer (xs (6 * n + 1)) (xs (6 * n + 2)) (xs (6 * n + 3)) (xs (6 * n + 4)) ρ = some (r, ρ2))
    (kk : ∀ (H : Heap) (locs : List Loc) (ls : Array Slot), va_P D vwCl (ed_w ad ca σ2 ++ md_w ad2 ca ρ2) H → va_D A (ed_w ad ca σ2 ++ md_w ad2 ca ρ2) → va_S A s.heap H locs → lv_has ls 4 [(0, .ref b), (1, .ref (ad (pDesk 0))), (2, .ref (ad2 (pMod 0))), (3, .int (nI (6 * n)))] → W p l e room_1 s m #[Value.ref b] below meth c H locs 234 1758 Q (F0 m 814 ls []))
    (H : Heap) (locs : List Loc) (ls : Array Slot) (hP : va_P D vwCl (ed_w ad ca σ ++ md_w ad2 ca ρ) H) (hD : va_D A (ed_w ad ca σ ++ md_w ad2 ca ρ)) (hS : va_S A s.heap H locs) (hl : lv_has ls 4 [(0, .ref b), (1, .ref (ad (pDesk 0))), (2, .ref (ad2 (pMod 0))), (3, .int (nI (6 * n)))]) : W p l e room_1 s m #[Value.ref b] below meth c H locs 234 1758 Q (F0 m 537 ls []) := by
  have hx := B.1
  have hb := B.2.1
  refine lv_aload_n hx hb d_Law_law_537 rfl (lv_at hl 1 rfl) ?_
  refine lv_aload_n hx hb d_Law_law_538 rfl (lv_at hl 0 rfl) ?_
  refine lv_iload_n hx hb d_Law_law_539 rfl (lv_at hl 3 rfl) ?_
  refine lv_iconst (v := 1) hx hb d_Law_law_540 (by decide) ?_
  refine lv_iadd hx hb d_Law_law_541 ?_
  refine lw_ld (k := 6 * n + 1) hx hb hX hbl hbA hS hL (nI_add (6 * n) 1) (by omega) d_Law_law_542 ?_
  refine lv_aload_n hx hb d_Law_law_543 rfl (lv_at hl 0 rfl) ?_
  refine lv_iload_n hx hb d_Law_law_544 rfl (lv_at hl 3 rfl) ?_
  refine lv_iconst (v := 2) hx hb d_Law_law_545 (by decide) ?_
  refine lv_iadd hx hb d_Law_law_546 ?_
  refine lw_ld (k := 6 * n + 2) hx hb hX hbl hbA hS hL (nI_add (6 * n) 2) (by omega) d_Law_law_547 ?_
  refine lv_aload_n hx hb d_Law_law_548 rfl (lv_at hl 0 rfl) ?_
  refine lv_iload_n hx hb d_Law_law_549 rfl (lv_at hl 3 rfl) ?_
  refine lv_iconst (v := 3) hx hb d_Law_law_550 (by decide) ?_
  refine lv_iadd hx hb d_Law_law_551 ?_
  refine lw_ld (k := 6 * n + 3) hx hb hX hbl hbA hS hL (nI_add (6 * n) 3) (by omega) d_Law_law_552 ?_
  refine lv_aload_n hx hb d_Law_law_553 rfl (lv_at hl 0 rfl) ?_
  refine lv_iload_n hx hb d_Law_law_554 rfl (lv_at hl 3 rfl) ?_
  refine lv_iconst (v := 4) hx hb d_Law_law_555 (by decide) ?_
  refine lv_iadd hx hb d_Law_law_556 ?_
  refine lw_ld (k := 6 * n + 4) hx hb hX hbl hbA hS hL (nI_add (6 * n) 4) (by omega) d_Law_law_557 ?_
  refine lw_cI (w := (ed_w ad ca)) (wr := (md_w ad2 ca ρ)) (σ := σ) (As := [.int (xs (6 * n + 1)), .int (xs (6 * n + 2)), .int (xs (6 * n + 3)), .int (xs (6 * n + 4))]) (rest := []) B hP hD hS hA (C_Desk_transfer l D ad ca (xs (6 * n + 1)) (xs (6 * n + 2)) (xs (6 * n + 3)) (xs (6 * n + 4)) σ r σ2 hF) me_Desk_transfer mv_Desk_transfer L_Law_63 (ed_rc_Desk (i := 0) B (ed_pL hP) (by decide)) ⟨rfl, rfl⟩ ⟨Nat.le_of_ble_eq_true rfl, Nat.le_of_ble_eq_true rfl⟩ rfl rfl hl.1 (lv_room (Nat.le_of_ble_eq_true rfl)) d_Law_law_558 ⟨Nat.le_of_ble_eq_true rfl, Nat.le_of_ble_eq_true rfl⟩ (fun H locs hP hD hS => ?_)
  refine lv_aload_n hx hb d_Law_law_561 rfl (lv_at hl 2 rfl) ?_
  refine lv_aload_n hx hb d_Law_law_562 rfl (lv_at hl 0 rfl) ?_
  refine lv_iload_n hx hb d_Law_law_563 rfl (lv_at hl 3 rfl) ?_
  refine lv_iconst (v := 1) hx hb d_Law_law_564 (by decide) ?_
  refine lv_iadd hx hb d_Law_law_565 ?_
  refine lw_ld (k := 6 * n + 1) hx hb hX hbl hbA hS hL (nI_add (6 * n) 1) (by omega) d_Law_law_566 ?_
  refine lv_aload_n hx hb d_Law_law_567 rfl (lv_at hl 0 rfl) ?_
  refine lv_iload_n hx hb d_Law_law_568 rfl (lv_at hl 3 rfl) ?_
  refine lv_iconst (v := 2) hx hb d_Law_law_569 (by decide) ?_
  refine lv_iadd hx hb d_Law_law_570 ?_
  refine lw_ld (k := 6 * n + 2) hx hb hX hbl hbA hS hL (nI_add (6 * n) 2) (by omega) d_Law_law_571 ?_
  refine lv_aload_n hx hb d_Law_law_572 rfl (lv_at hl 0 rfl) ?_
  refine lv_iload_n hx hb d_Law_law_573 rfl (lv_at hl 3 rfl) ?_
  refine lv_iconst (v := 3) hx hb d_Law_law_574 (by decide) ?_
  refine lv_iadd hx hb d_Law_law_575 ?_
  refine lw_ld (k := 6 * n + 3) hx hb hX hbl hbA hS hL (nI_add (6 * n) 3) (by omega) d_Law_law_576 ?_
  refine lv_aload_n hx hb d_Law_law_577 rfl (lv_at hl 0 rfl) ?_
  refine lv_iload_n hx hb d_Law_law_578 rfl (lv_at hl 3 rfl) ?_
  refine lv_iconst (v := 4) hx hb d_Law_law_579 (by decide) ?_
  refine lv_iadd hx hb d_Law_law_580 ?_
  refine lw_ld (k := 6 * n + 4) hx hb hX hbl hbA hS hL (nI_add (6 * n) 4) (by omega) d_Law_law_581 ?_
  refine lw_cI (w := (md_w ad2 ca)) (wr := (ed_w ad ca σ2)) (σ := ρ) (As := [.int (xs (6 * n + 1)), .int (xs (6 * n + 2)), .int (xs (6 * n + 3)), .int (xs (6 * n + 4))]) (rest := [.int r]) B hP hD hS hA (C_Mod_transfer l D ad2 ca (xs (6 * n + 1)) (xs (6 * n + 2)) (xs (6 * n + 3)) (xs (6 * n + 4)) ρ r ρ2 hG) me_Mod_transfer mv_Mod_transfer L_Law_66 (ed_rc_Mod (i := 0) B (ed_pL hP) (by decide)) ⟨rfl, rfl⟩ ⟨Nat.le_of_ble_eq_true rfl, Nat.le_of_ble_eq_true rfl⟩ rfl rfl hl.1 (lv_room (Nat.le_of_ble_eq_true rfl)) d_Law_law_582 ⟨Nat.le_of_ble_eq_true rfl, Nat.le_of_ble_eq_true rfl⟩ (fun H locs hP hD hS => ?_)
  refine lv_icmp_eq (tgt := 814) hx hb d_Law_law_585 (by decide) (fun c0 => ?_) (fun c0 => ?_)
  · exact kk H locs ls hP hD hS hl
  · exact absurd rfl c0
set_option maxHeartbeats 4000000 in
set_option maxRecDepth 100000 in
theorem lw_case12 {p : Program} {l : Launch} {e : Env} {s : State} {m : MethodId} {below : List Frame} {meth : Method} {c : Code} {D : va_G} {ca : Nat → ClassId} {A : Nat → Prop} {Q : State → Prop} {b L : Nat} {xs : Nat → Int32} {ad ad2 : Nat → Nat} (B : ed_B p s m #[Value.ref b] meth c code "ExecutiveDeskLaw" 4 D ca) (hA : ∀ q : Nat, s.heap.size ≤ q → A q) (hX : va_X b L xs s s.heap) (hbl : b < s.heap.size) (hbA : ¬ A b) (hL : L ≤ 3072) {n : Nat} (hn : 6 * n + 6 ≤ L) {σ ρ σ2 ρ2 : ed_S} {r : Int32} (hF : F_Desk_cancel (xs (6 * n + 1)) σ = some (r, σ2)) (hG : F_Mod_cancel (xs (6 * n + 1)) ρ = some (r, ρ2))
    (kk : ∀ (H : Heap) (locs : List Loc) (ls : Array Slot), va_P D vwCl (ed_w ad ca σ2 ++ md_w ad2 ca ρ2) H → va_D A (ed_w ad ca σ2 ++ md_w ad2 ca ρ2) → va_S A s.heap H locs → lv_has ls 4 [(0, .ref b), (1, .ref (ad (pDesk 0))), (2, .ref (ad2 (pMod 0))), (3, .int (nI (6 * n)))] → W p l e room_1 s m #[Value.ref b] below meth c H locs 234 1758 Q (F0 m 814 ls []))
    (H : Heap) (locs : List Loc) (ls : Array Slot) (hP : va_P D vwCl (ed_w ad ca σ ++ md_w ad2 ca ρ) H) (hD : va_D A (ed_w ad ca σ ++ md_w ad2 ca ρ)) (hS : va_S A s.heap H locs) (hl : lv_has ls 4 [(0, .ref b), (1, .ref (ad (pDesk 0))), (2, .ref (ad2 (pMod 0))), (3, .int (nI (6 * n)))]) : W p l e room_1 s m #[Value.ref b] below meth c H locs 234 1758 Q (F0 m 590 ls []) := by
  have hx := B.1
  have hb := B.2.1
  refine lv_aload_n hx hb d_Law_law_590 rfl (lv_at hl 1 rfl) ?_
  refine lv_aload_n hx hb d_Law_law_591 rfl (lv_at hl 0 rfl) ?_
  refine lv_iload_n hx hb d_Law_law_592 rfl (lv_at hl 3 rfl) ?_
  refine lv_iconst (v := 1) hx hb d_Law_law_593 (by decide) ?_
  refine lv_iadd hx hb d_Law_law_594 ?_
  refine lw_ld (k := 6 * n + 1) hx hb hX hbl hbA hS hL (nI_add (6 * n) 1) (by omega) d_Law_law_595 ?_
  refine lw_cI (w := (ed_w ad ca)) (wr := (md_w ad2 ca ρ)) (σ := σ) (As := [.int (xs (6 * n + 1))]) (rest := []) B hP hD hS hA (C_Desk_cancel l D ad ca (xs (6 * n + 1)) σ r σ2 hF) me_Desk_cancel mv_Desk_cancel L_Law_67 (ed_rc_Desk (i := 0) B (ed_pL hP) (by decide)) ⟨rfl, rfl⟩ ⟨Nat.le_of_ble_eq_true rfl, Nat.le_of_ble_eq_true rfl⟩ rfl rfl hl.1 (lv_room (Nat.le_of_ble_eq_true rfl)) d_Law_law_596 ⟨Nat.le_of_ble_eq_true rfl, Nat.le_of_ble_eq_true rfl⟩ (fun H locs hP hD hS => ?_)
  refine lv_aload_n hx hb d_Law_law_599 rfl (lv_at hl 2 rfl) ?_
  refine lv_aload_n hx hb d_Law_law_600 rfl (lv_at hl 0 rfl) ?_
  refine lv_iload_n hx hb d_Law_law_601 rfl (lv_at hl 3 rfl) ?_
  refine lv_iconst (v := 1) hx hb d_Law_law_602 (by decide) ?_
  refine lv_iadd hx hb d_Law_law_603 ?_
  refine lw_ld (k := 6 * n + 1) hx hb hX hbl hbA hS hL (nI_add (6 * n) 1) (by omega) d_Law_law_604 ?_
  refine lw_cI (w := (md_w ad2 ca)) (wr := (ed_w ad ca σ2)) (σ := ρ) (As := [.int (xs (6 * n + 1))]) (rest := [.int r]) B hP hD hS hA (C_Mod_cancel l D ad2 ca (xs (6 * n + 1)) ρ r ρ2 hG) me_Mod_cancel mv_Mod_cancel L_Law_70 (ed_rc_Mod (i := 0) B (ed_pL hP) (by decide)) ⟨rfl, rfl⟩ ⟨Nat.le_of_ble_eq_true rfl, Nat.le_of_ble_eq_true rfl⟩ rfl rfl hl.1 (lv_room (Nat.le_of_ble_eq_true rfl)) d_Law_law_605 ⟨Nat.le_of_ble_eq_true rfl, Nat.le_of_ble_eq_true rfl⟩ (fun H locs hP hD hS => ?_)
  refine lv_icmp_eq (tgt := 814) hx hb d_Law_law_608 (by decide) (fun c0 => ?_) (fun c0 => ?_)
  · exact kk H locs ls hP hD hS hl
  · exact absurd rfl c0
set_option maxHeartbeats 4000000 in
set_option maxRecDepth 100000 in
theorem lw_case13 {p : Program} {l : Launch} {e : Env} {s : State} {m : MethodId} {below : List Frame} {meth : Method} {c : Code} {D : va_G} {ca : Nat → ClassId} {A : Nat → Prop} {Q : State → Prop} {b L : Nat} {xs : Nat → Int32} {ad ad2 : Nat → Nat} (B : ed_B p s m #[Value.ref b] meth c code "ExecutiveDeskLaw" 4 D ca) (hA : ∀ q : Nat, s.heap.size ≤ q → A q) (hX : va_X b L xs s s.heap) (hbl : b < s.heap.size) (hbA : ¬ A b) (hL : L ≤ 3072) {n : Nat} (hn : 6 * n + 6 ≤ L) {σ ρ σ2 ρ2 : ed_S} {r : Int32} (hF : F_Desk_exit  σ = some (r, σ2)) (hG : F_Mod_exit  ρ = some (r, ρ2))
    (kk : ∀ (H : Heap) (locs : List Loc) (ls : Array Slot), va_P D vwCl (ed_w ad ca σ2 ++ md_w ad2 ca ρ2) H → va_D A (ed_w ad ca σ2 ++ md_w ad2 ca ρ2) → va_S A s.heap H locs → lv_has ls 4 [(0, .ref b), (1, .ref (ad (pDesk 0))), (2, .ref (ad2 (pMod 0))), (3, .int (nI (6 * n)))] → W p l e room_1 s m #[Value.ref b] below meth c H locs 234 1758 Q (F0 m 814 ls []))
    (H : Heap) (locs : List Loc) (ls : Array Slot) (hP : va_P D vwCl (ed_w ad ca σ ++ md_w ad2 ca ρ) H) (hD : va_D A (ed_w ad ca σ ++ md_w ad2 ca ρ)) (hS : va_S A s.heap H locs) (hl : lv_has ls 4 [(0, .ref b), (1, .ref (ad (pDesk 0))), (2, .ref (ad2 (pMod 0))), (3, .int (nI (6 * n)))]) : W p l e room_1 s m #[Value.ref b] below meth c H locs 234 1758 Q (F0 m 613 ls []) := by
  have hx := B.1
  have hb := B.2.1
  refine lv_aload_n hx hb d_Law_law_613 rfl (lv_at hl 1 rfl) ?_
  refine lw_cI (w := (ed_w ad ca)) (wr := (md_w ad2 ca ρ)) (σ := σ) (As := []) (rest := []) B hP hD hS hA (C_Desk_exit l D ad ca  σ r σ2 hF) me_Desk_exit mv_Desk_exit L_Law_71 (ed_rc_Desk (i := 0) B (ed_pL hP) (by decide)) ⟨rfl, rfl⟩ ⟨Nat.le_of_ble_eq_true rfl, Nat.le_of_ble_eq_true rfl⟩ rfl rfl hl.1 (lv_room (Nat.le_of_ble_eq_true rfl)) d_Law_law_614 ⟨Nat.le_of_ble_eq_true rfl, Nat.le_of_ble_eq_true rfl⟩ (fun H locs hP hD hS => ?_)
  refine lv_aload_n hx hb d_Law_law_617 rfl (lv_at hl 2 rfl) ?_
  refine lw_cI (w := (md_w ad2 ca)) (wr := (ed_w ad ca σ2)) (σ := ρ) (As := []) (rest := [.int r]) B hP hD hS hA (C_Mod_exit l D ad2 ca  ρ r ρ2 hG) me_Mod_exit mv_Mod_exit L_Law_75 (ed_rc_Mod (i := 0) B (ed_pL hP) (by decide)) ⟨rfl, rfl⟩ ⟨Nat.le_of_ble_eq_true rfl, Nat.le_of_ble_eq_true rfl⟩ rfl rfl hl.1 (lv_room (Nat.le_of_ble_eq_true rfl)) d_Law_law_618 ⟨Nat.le_of_ble_eq_true rfl, Nat.le_of_ble_eq_true rfl⟩ (fun H locs hP hD hS => ?_)
  refine lv_icmp_eq (tgt := 814) hx hb d_Law_law_621 (by decide) (fun c0 => ?_) (fun c0 => ?_)
  · exact kk H locs ls hP hD hS hl
  · exact absurd rfl c0
set_option maxHeartbeats 4000000 in
set_option maxRecDepth 100000 in
theorem lw_case14 {p : Program} {l : Launch} {e : Env} {s : State} {m : MethodId} {below : List Frame} {meth : Method} {c : Code} {D : va_G} {ca : Nat → ClassId} {A : Nat → Prop} {Q : State → Prop} {b L : Nat} {xs : Nat → Int32} {ad ad2 : Nat → Nat} (B : ed_B p s m #[Value.ref b] meth c code "ExecutiveDeskLaw" 4 D ca) (hA : ∀ q : Nat, s.heap.size ≤ q → A q) (hX : va_X b L xs s s.heap) (hbl : b < s.heap.size) (hbA : ¬ A b) (hL : L ≤ 3072) {n : Nat} (hn : 6 * n + 6 ≤ L) {σ ρ σ2 ρ2 : ed_S} {r : Int32} (hF : F_Desk_tick (xs (6 * n + 1)) σ = some (r, σ2)) (hG : F_Mod_tick (xs (6 * n + 1)) ρ = some (r, ρ2))
    (kk : ∀ (H : Heap) (locs : List Loc) (ls : Array Slot), va_P D vwCl (ed_w ad ca σ2 ++ md_w ad2 ca ρ2) H → va_D A (ed_w ad ca σ2 ++ md_w ad2 ca ρ2) → va_S A s.heap H locs → lv_has ls 4 [(0, .ref b), (1, .ref (ad (pDesk 0))), (2, .ref (ad2 (pMod 0))), (3, .int (nI (6 * n)))] → W p l e room_1 s m #[Value.ref b] below meth c H locs 234 1758 Q (F0 m 814 ls []))
    (H : Heap) (locs : List Loc) (ls : Array Slot) (hP : va_P D vwCl (ed_w ad ca σ ++ md_w ad2 ca ρ) H) (hD : va_D A (ed_w ad ca σ ++ md_w ad2 ca ρ)) (hS : va_S A s.heap H locs) (hl : lv_has ls 4 [(0, .ref b), (1, .ref (ad (pDesk 0))), (2, .ref (ad2 (pMod 0))), (3, .int (nI (6 * n)))]) : W p l e room_1 s m #[Value.ref b] below meth c H locs 234 1758 Q (F0 m 626 ls []) := by
  have hx := B.1
  have hb := B.2.1
  refine lv_aload_n hx hb d_Law_law_626 rfl (lv_at hl 1 rfl) ?_
  refine lv_aload_n hx hb d_Law_law_627 rfl (lv_at hl 0 rfl) ?_
  refine lv_iload_n hx hb d_Law_law_628 rfl (lv_at hl 3 rfl) ?_
  refine lv_iconst (v := 1) hx hb d_Law_law_629 (by decide) ?_
  refine lv_iadd hx hb d_Law_law_630 ?_
  refine lw_ld (k := 6 * n + 1) hx hb hX hbl hbA hS hL (nI_add (6 * n) 1) (by omega) d_Law_law_631 ?_
  refine lw_cI (w := (ed_w ad ca)) (wr := (md_w ad2 ca ρ)) (σ := σ) (As := [.int (xs (6 * n + 1))]) (rest := []) B hP hD hS hA (C_Desk_tick l D ad ca (xs (6 * n + 1)) σ r σ2 hF) me_Desk_tick mv_Desk_tick L_Law_76 (ed_rc_Desk (i := 0) B (ed_pL hP) (by decide)) ⟨rfl, rfl⟩ ⟨Nat.le_of_ble_eq_true rfl, Nat.le_of_ble_eq_true rfl⟩ rfl rfl hl.1 (lv_room (Nat.le_of_ble_eq_true rfl)) d_Law_law_632 ⟨Nat.le_of_ble_eq_true rfl, Nat.le_of_ble_eq_true rfl⟩ (fun H locs hP hD hS => ?_)
  refine lv_aload_n hx hb d_Law_law_635 rfl (lv_at hl 2 rfl) ?_
  refine lv_aload_n hx hb d_Law_law_636 rfl (lv_at hl 0 rfl) ?_
  refine lv_iload_n hx hb d_Law_law_637 rfl (lv_at hl 3 rfl) ?_
  refine lv_iconst (v := 1) hx hb d_Law_law_638 (by decide) ?_
  refine lv_iadd hx hb d_Law_law_639 ?_
  refine lw_ld (k := 6 * n + 1) hx hb hX hbl hbA hS hL (nI_add (6 * n) 1) (by omega) d_Law_law_640 ?_
  refine lw_cI (w := (md_w ad2 ca)) (wr := (ed_w ad ca σ2)) (σ := ρ) (As := [.int (xs (6 * n + 1))]) (rest := [.int r]) B hP hD hS hA (C_Mod_tick l D ad2 ca (xs (6 * n + 1)) ρ r ρ2 hG) me_Mod_tick mv_Mod_tick L_Law_79 (ed_rc_Mod (i := 0) B (ed_pL hP) (by decide)) ⟨rfl, rfl⟩ ⟨Nat.le_of_ble_eq_true rfl, Nat.le_of_ble_eq_true rfl⟩ rfl rfl hl.1 (lv_room (Nat.le_of_ble_eq_true rfl)) d_Law_law_641 ⟨Nat.le_of_ble_eq_true rfl, Nat.le_of_ble_eq_true rfl⟩ (fun H locs hP hD hS => ?_)
  refine lv_icmp_eq (tgt := 814) hx hb d_Law_law_644 (by decide) (fun c0 => ?_) (fun c0 => ?_)
  · exact kk H locs ls hP hD hS hl
  · exact absurd rfl c0
set_option maxHeartbeats 4000000 in
set_option maxRecDepth 100000 in
theorem lw_case15 {p : Program} {l : Launch} {e : Env} {s : State} {m : MethodId} {below : List Frame} {meth : Method} {c : Code} {D : va_G} {ca : Nat → ClassId} {A : Nat → Prop} {Q : State → Prop} {b L : Nat} {xs : Nat → Int32} {ad ad2 : Nat → Nat} (B : ed_B p s m #[Value.ref b] meth c code "ExecutiveDeskLaw" 4 D ca) (hA : ∀ q : Nat, s.heap.size ≤ q → A q) (hX : va_X b L xs s s.heap) (hbl : b < s.heap.size) (hbA : ¬ A b) (hL : L ≤ 3072) {n : Nat} (hn : 6 * n + 6 ≤ L) {σ ρ σ2 ρ2 : ed_S} {r : Int32} (hF : F_Desk_actor (xs (6 * n + 1)) (xs (6 * n + 2)) σ = some (r, σ2)) (hG : F_Mod_actor (xs (6 * n + 1)) (xs (6 * n + 2)) ρ = some (r, ρ2))
    (kk : ∀ (H : Heap) (locs : List Loc) (ls : Array Slot), va_P D vwCl (ed_w ad ca σ2 ++ md_w ad2 ca ρ2) H → va_D A (ed_w ad ca σ2 ++ md_w ad2 ca ρ2) → va_S A s.heap H locs → lv_has ls 4 [(0, .ref b), (1, .ref (ad (pDesk 0))), (2, .ref (ad2 (pMod 0))), (3, .int (nI (6 * n)))] → W p l e room_1 s m #[Value.ref b] below meth c H locs 234 1758 Q (F0 m 814 ls []))
    (H : Heap) (locs : List Loc) (ls : Array Slot) (hP : va_P D vwCl (ed_w ad ca σ ++ md_w ad2 ca ρ) H) (hD : va_D A (ed_w ad ca σ ++ md_w ad2 ca ρ)) (hS : va_S A s.heap H locs) (hl : lv_has ls 4 [(0, .ref b), (1, .ref (ad (pDesk 0))), (2, .ref (ad2 (pMod 0))), (3, .int (nI (6 * n)))]) : W p l e room_1 s m #[Value.ref b] below meth c H locs 234 1758 Q (F0 m 649 ls []) := by
  have hx := B.1
  have hb := B.2.1
  refine lv_aload_n hx hb d_Law_law_649 rfl (lv_at hl 1 rfl) ?_
  refine lv_aload_n hx hb d_Law_law_650 rfl (lv_at hl 0 rfl) ?_
  refine lv_iload_n hx hb d_Law_law_651 rfl (lv_at hl 3 rfl) ?_
  refine lv_iconst (v := 1) hx hb d_Law_law_652 (by decide) ?_
  refine lv_iadd hx hb d_Law_law_653 ?_
  refine lw_ld (k := 6 * n + 1) hx hb hX hbl hbA hS hL (nI_add (6 * n) 1) (by omega) d_Law_law_654 ?_
  refine lv_aload_n hx hb d_Law_law_655 rfl (lv_at hl 0 rfl) ?_
  refine lv_iload_n hx hb d_Law_law_656 rfl (lv_at hl 3 rfl) ?_
  refine lv_iconst (v := 2) hx hb d_Law_law_657 (by decide) ?_
  refine lv_iadd hx hb d_Law_law_658 ?_
  refine lw_ld (k := 6 * n + 2) hx hb hX hbl hbA hS hL (nI_add (6 * n) 2) (by omega) d_Law_law_659 ?_
  refine lw_cI (w := (ed_w ad ca)) (wr := (md_w ad2 ca ρ)) (σ := σ) (As := [.int (xs (6 * n + 1)), .int (xs (6 * n + 2))]) (rest := []) B hP hD hS hA (C_Desk_actor l D ad ca (xs (6 * n + 1)) (xs (6 * n + 2)) σ r σ2 hF) me_Desk_actor mv_Desk_actor L_Law_80 (ed_rc_Desk (i := 0) B (ed_pL hP) (by decide)) ⟨rfl, rfl⟩ ⟨Nat.le_of_ble_eq_true rfl, Nat.le_of_ble_eq_true rfl⟩ rfl rfl hl.1 (lv_room (Nat.le_of_ble_eq_true rfl)) d_Law_law_660 ⟨Nat.le_of_ble_eq_true rfl, Nat.le_of_ble_eq_true rfl⟩ (fun H locs hP hD hS => ?_)
  refine lv_aload_n hx hb d_Law_law_663 rfl (lv_at hl 2 rfl) ?_
  refine lv_aload_n hx hb d_Law_law_664 rfl (lv_at hl 0 rfl) ?_
  refine lv_iload_n hx hb d_Law_law_665 rfl (lv_at hl 3 rfl) ?_
  refine lv_iconst (v := 1) hx hb d_Law_law_666 (by decide) ?_
  refine lv_iadd hx hb d_Law_law_667 ?_
  refine lw_ld (k := 6 * n + 1) hx hb hX hbl hbA hS hL (nI_add (6 * n) 1) (by omega) d_Law_law_668 ?_
  refine lv_aload_n hx hb d_Law_law_669 rfl (lv_at hl 0 rfl) ?_
  refine lv_iload_n hx hb d_Law_law_670 rfl (lv_at hl 3 rfl) ?_
  refine lv_iconst (v := 2) hx hb d_Law_law_671 (by decide) ?_
  refine lv_iadd hx hb d_Law_law_672 ?_
  refine lw_ld (k := 6 * n + 2) hx hb hX hbl hbA hS hL (nI_add (6 * n) 2) (by omega) d_Law_law_673 ?_
  refine lw_cI (w := (md_w ad2 ca)) (wr := (ed_w ad ca σ2)) (σ := ρ) (As := [.int (xs (6 * n + 1)), .int (xs (6 * n + 2))]) (rest := [.int r]) B hP hD hS hA (C_Mod_actor l D ad2 ca (xs (6 * n + 1)) (xs (6 * n + 2)) ρ r ρ2 hG) me_Mod_actor mv_Mod_actor L_Law_83 (ed_rc_Mod (i := 0) B (ed_pL hP) (by decide)) ⟨rfl, rfl⟩ ⟨Nat.le_of_ble_eq_true rfl, Nat.le_of_ble_eq_true rfl⟩ rfl rfl hl.1 (lv_room (Nat.le_of_ble_eq_true rfl)) d_Law_law_674 ⟨Nat.le_of_ble_eq_true rfl, Nat.le_of_ble_eq_true rfl⟩ (fun H locs hP hD hS => ?_)
  refine lv_icmp_eq (tgt := 814) hx hb d_Law_law_677 (by decide) (fun c0 => ?_) (fun c0 => ?_)
  · exact kk H locs ls hP hD hS hl
  · exact absurd rfl c0
set_option maxHeartbeats 4000000 in
set_option maxRecDepth 100000 in
theorem lw_case16 {p : Program} {l : Launch} {e : Env} {s : State} {m : MethodId} {below : List Frame} {meth : Method} {c : Code} {D : va_G} {ca : Nat → ClassId} {A : Nat → Prop} {Q : State → Prop} {b L : Nat} {xs : Nat → Int32} {ad ad2 : Nat → Nat} (B : ed_B p s m #[Value.ref b] meth c code "ExecutiveDeskLaw" 4 D ca) (hA : ∀ q : Nat, s.heap.size ≤ q → A q) (hX : va_X b L xs s s.heap) (hbl : b < s.heap.size) (hbA : ¬ A b) (hL : L ≤ 3072) {n : Nat} (hn : 6 * n + 6 ≤ L) {σ ρ σ2 ρ2 : ed_S} {r : Int32} (hF : F_Desk_object (xs (6 * n + 1)) (xs (6 * n + 2)) σ = some (r, σ2)) (hG : F_Mod_object (xs (6 * n + 1)) (xs (6 * n + 2)) ρ = some (r, ρ2))
    (kk : ∀ (H : Heap) (locs : List Loc) (ls : Array Slot), va_P D vwCl (ed_w ad ca σ2 ++ md_w ad2 ca ρ2) H → va_D A (ed_w ad ca σ2 ++ md_w ad2 ca ρ2) → va_S A s.heap H locs → lv_has ls 4 [(0, .ref b), (1, .ref (ad (pDesk 0))), (2, .ref (ad2 (pMod 0))), (3, .int (nI (6 * n)))] → W p l e room_1 s m #[Value.ref b] below meth c H locs 234 1758 Q (F0 m 814 ls []))
    (H : Heap) (locs : List Loc) (ls : Array Slot) (hP : va_P D vwCl (ed_w ad ca σ ++ md_w ad2 ca ρ) H) (hD : va_D A (ed_w ad ca σ ++ md_w ad2 ca ρ)) (hS : va_S A s.heap H locs) (hl : lv_has ls 4 [(0, .ref b), (1, .ref (ad (pDesk 0))), (2, .ref (ad2 (pMod 0))), (3, .int (nI (6 * n)))]) : W p l e room_1 s m #[Value.ref b] below meth c H locs 234 1758 Q (F0 m 682 ls []) := by
  have hx := B.1
  have hb := B.2.1
  refine lv_aload_n hx hb d_Law_law_682 rfl (lv_at hl 1 rfl) ?_
  refine lv_aload_n hx hb d_Law_law_683 rfl (lv_at hl 0 rfl) ?_
  refine lv_iload_n hx hb d_Law_law_684 rfl (lv_at hl 3 rfl) ?_
  refine lv_iconst (v := 1) hx hb d_Law_law_685 (by decide) ?_
  refine lv_iadd hx hb d_Law_law_686 ?_
  refine lw_ld (k := 6 * n + 1) hx hb hX hbl hbA hS hL (nI_add (6 * n) 1) (by omega) d_Law_law_687 ?_
  refine lv_aload_n hx hb d_Law_law_688 rfl (lv_at hl 0 rfl) ?_
  refine lv_iload_n hx hb d_Law_law_689 rfl (lv_at hl 3 rfl) ?_
  refine lv_iconst (v := 2) hx hb d_Law_law_690 (by decide) ?_
  refine lv_iadd hx hb d_Law_law_691 ?_
  refine lw_ld (k := 6 * n + 2) hx hb hX hbl hbA hS hL (nI_add (6 * n) 2) (by omega) d_Law_law_692 ?_
  refine lw_cI (w := (ed_w ad ca)) (wr := (md_w ad2 ca ρ)) (σ := σ) (As := [.int (xs (6 * n + 1)), .int (xs (6 * n + 2))]) (rest := []) B hP hD hS hA (C_Desk_object l D ad ca (xs (6 * n + 1)) (xs (6 * n + 2)) σ r σ2 hF) me_Desk_object mv_Desk_object L_Law_84 (ed_rc_Desk (i := 0) B (ed_pL hP) (by decide)) ⟨rfl, rfl⟩ ⟨Nat.le_of_ble_eq_true rfl, Nat.le_of_ble_eq_true rfl⟩ rfl rfl hl.1 (lv_room (Nat.le_of_ble_eq_true rfl)) d_Law_law_693 ⟨Nat.le_of_ble_eq_true rfl, Nat.le_of_ble_eq_true rfl⟩ (fun H locs hP hD hS => ?_)
  refine lv_aload_n hx hb d_Law_law_696 rfl (lv_at hl 2 rfl) ?_
  refine lv_aload_n hx hb d_Law_law_697 rfl (lv_at hl 0 rfl) ?_
  refine lv_iload_n hx hb d_Law_law_698 rfl (lv_at hl 3 rfl) ?_
  refine lv_iconst (v := 1) hx hb d_Law_law_699 (by decide) ?_
  refine lv_iadd hx hb d_Law_law_700 ?_
  refine lw_ld (k := 6 * n + 1) hx hb hX hbl hbA hS hL (nI_add (6 * n) 1) (by omega) d_Law_law_701 ?_
  refine lv_aload_n hx hb d_Law_law_702 rfl (lv_at hl 0 rfl) ?_
  refine lv_iload_n hx hb d_Law_law_703 rfl (lv_at hl 3 rfl) ?_
  refine lv_iconst (v := 2) hx hb d_Law_law_704 (by decide) ?_
  refine lv_iadd hx hb d_Law_law_705 ?_
  refine lw_ld (k := 6 * n + 2) hx hb hX hbl hbA hS hL (nI_add (6 * n) 2) (by omega) d_Law_law_706 ?_
  refine lw_cI (w := (md_w ad2 ca)) (wr := (ed_w ad ca σ2)) (σ := ρ) (As := [.int (xs (6 * n + 1)), .int (xs (6 * n + 2))]) (rest := [.int r]) B hP hD hS hA (C_Mod_object l D ad2 ca (xs (6 * n + 1)) (xs (6 * n + 2)) ρ r ρ2 hG) me_Mod_object mv_Mod_object L_Law_87 (ed_rc_Mod (i := 0) B (ed_pL hP) (by decide)) ⟨rfl, rfl⟩ ⟨Nat.le_of_ble_eq_true rfl, Nat.le_of_ble_eq_true rfl⟩ rfl rfl hl.1 (lv_room (Nat.le_of_ble_eq_true rfl)) d_Law_law_707 ⟨Nat.le_of_ble_eq_true rfl, Nat.le_of_ble_eq_true rfl⟩ (fun H locs hP hD hS => ?_)
  refine lv_icmp_eq (tgt := 814) hx hb d_Law_law_710 (by decide) (fun c0 => ?_) (fun c0 => ?_)
  · exact kk H locs ls hP hD hS hl
  · exact absurd rfl c0
set_option maxHeartbeats 4000000 in
set_option maxRecDepth 100000 in
theorem lw_case17 {p : Program} {l : Launch} {e : Env} {s : State} {m : MethodId} {below : List Frame} {meth : Method} {c : Code} {D : va_G} {ca : Nat → ClassId} {A : Nat → Prop} {Q : State → Prop} {b L : Nat} {xs : Nat → Int32} {ad ad2 : Nat → Nat} (B : ed_B p s m #[Value.ref b] meth c code "ExecutiveDeskLaw" 4 D ca) (hA : ∀ q : Nat, s.heap.size ≤ q → A q) (hX : va_X b L xs s s.heap) (hbl : b < s.heap.size) (hbA : ¬ A b) (hL : L ≤ 3072) {n : Nat} (hn : 6 * n + 6 ≤ L) {σ ρ σ2 ρ2 : ed_S} {r : Int32} (hF : F_Desk_io (xs (6 * n + 1)) (xs (6 * n + 2)) σ = some (r, σ2)) (hG : F_Mod_io (xs (6 * n + 1)) (xs (6 * n + 2)) ρ = some (r, ρ2))
    (kk : ∀ (H : Heap) (locs : List Loc) (ls : Array Slot), va_P D vwCl (ed_w ad ca σ2 ++ md_w ad2 ca ρ2) H → va_D A (ed_w ad ca σ2 ++ md_w ad2 ca ρ2) → va_S A s.heap H locs → lv_has ls 4 [(0, .ref b), (1, .ref (ad (pDesk 0))), (2, .ref (ad2 (pMod 0))), (3, .int (nI (6 * n)))] → W p l e room_1 s m #[Value.ref b] below meth c H locs 234 1758 Q (F0 m 814 ls []))
    (H : Heap) (locs : List Loc) (ls : Array Slot) (hP : va_P D vwCl (ed_w ad ca σ ++ md_w ad2 ca ρ) H) (hD : va_D A (ed_w ad ca σ ++ md_w ad2 ca ρ)) (hS : va_S A s.heap H locs) (hl : lv_has ls 4 [(0, .ref b), (1, .ref (ad (pDesk 0))), (2, .ref (ad2 (pMod 0))), (3, .int (nI (6 * n)))]) : W p l e room_1 s m #[Value.ref b] below meth c H locs 234 1758 Q (F0 m 715 ls []) := by
  have hx := B.1
  have hb := B.2.1
  refine lv_aload_n hx hb d_Law_law_715 rfl (lv_at hl 1 rfl) ?_
  refine lv_aload_n hx hb d_Law_law_716 rfl (lv_at hl 0 rfl) ?_
  refine lv_iload_n hx hb d_Law_law_717 rfl (lv_at hl 3 rfl) ?_
  refine lv_iconst (v := 1) hx hb d_Law_law_718 (by decide) ?_
  refine lv_iadd hx hb d_Law_law_719 ?_
  refine lw_ld (k := 6 * n + 1) hx hb hX hbl hbA hS hL (nI_add (6 * n) 1) (by omega) d_Law_law_720 ?_
  refine lv_aload_n hx hb d_Law_law_721 rfl (lv_at hl 0 rfl) ?_
  refine lv_iload_n hx hb d_Law_law_722 rfl (lv_at hl 3 rfl) ?_
  refine lv_iconst (v := 2) hx hb d_Law_law_723 (by decide) ?_
  refine lv_iadd hx hb d_Law_law_724 ?_
  refine lw_ld (k := 6 * n + 2) hx hb hX hbl hbA hS hL (nI_add (6 * n) 2) (by omega) d_Law_law_725 ?_
  refine lw_cI (w := (ed_w ad ca)) (wr := (md_w ad2 ca ρ)) (σ := σ) (As := [.int (xs (6 * n + 1)), .int (xs (6 * n + 2))]) (rest := []) B hP hD hS hA (C_Desk_io l D ad ca (xs (6 * n + 1)) (xs (6 * n + 2)) σ r σ2 hF) me_Desk_io mv_Desk_io L_Law_88 (ed_rc_Desk (i := 0) B (ed_pL hP) (by decide)) ⟨rfl, rfl⟩ ⟨Nat.le_of_ble_eq_true rfl, Nat.le_of_ble_eq_true rfl⟩ rfl rfl hl.1 (lv_room (Nat.le_of_ble_eq_true rfl)) d_Law_law_726 ⟨Nat.le_of_ble_eq_true rfl, Nat.le_of_ble_eq_true rfl⟩ (fun H locs hP hD hS => ?_)
  refine lv_aload_n hx hb d_Law_law_729 rfl (lv_at hl 2 rfl) ?_
  refine lv_aload_n hx hb d_Law_law_730 rfl (lv_at hl 0 rfl) ?_
  refine lv_iload_n hx hb d_Law_law_731 rfl (lv_at hl 3 rfl) ?_
  refine lv_iconst (v := 1) hx hb d_Law_law_732 (by decide) ?_
  refine lv_iadd hx hb d_Law_law_733 ?_
  refine lw_ld (k := 6 * n + 1) hx hb hX hbl hbA hS hL (nI_add (6 * n) 1) (by omega) d_Law_law_734 ?_
  refine lv_aload_n hx hb d_Law_law_735 rfl (lv_at hl 0 rfl) ?_
  refine lv_iload_n hx hb d_Law_law_736 rfl (lv_at hl 3 rfl) ?_
  refine lv_iconst (v := 2) hx hb d_Law_law_737 (by decide) ?_
  refine lv_iadd hx hb d_Law_law_738 ?_
  refine lw_ld (k := 6 * n + 2) hx hb hX hbl hbA hS hL (nI_add (6 * n) 2) (by omega) d_Law_law_739 ?_
  refine lw_cI (w := (md_w ad2 ca)) (wr := (ed_w ad ca σ2)) (σ := ρ) (As := [.int (xs (6 * n + 1)), .int (xs (6 * n + 2))]) (rest := [.int r]) B hP hD hS hA (C_Mod_io l D ad2 ca (xs (6 * n + 1)) (xs (6 * n + 2)) ρ r ρ2 hG) me_Mod_io mv_Mod_io L_Law_91 (ed_rc_Mod (i := 0) B (ed_pL hP) (by decide)) ⟨rfl, rfl⟩ ⟨Nat.le_of_ble_eq_true rfl, Nat.le_of_ble_eq_true rfl⟩ rfl rfl hl.1 (lv_room (Nat.le_of_ble_eq_true rfl)) d_Law_law_740 ⟨Nat.le_of_ble_eq_true rfl, Nat.le_of_ble_eq_true rfl⟩ (fun H locs hP hD hS => ?_)
  refine lv_icmp_eq (tgt := 814) hx hb d_Law_law_743 (by decide) (fun c0 => ?_) (fun c0 => ?_)
  · exact kk H locs ls hP hD hS hl
  · exact absurd rfl c0
set_option maxHeartbeats 4000000 in
set_option maxRecDepth 100000 in
theorem lw_case18 {p : Program} {l : Launch} {e : Env} {s : State} {m : MethodId} {below : List Frame} {meth : Method} {c : Code} {D : va_G} {ca : Nat → ClassId} {A : Nat → Prop} {Q : State → Prop} {b L : Nat} {xs : Nat → Int32} {ad ad2 : Nat → Nat} (B : ed_B p s m #[Value.ref b] meth c code "ExecutiveDeskLaw" 4 D ca) (hA : ∀ q : Nat, s.heap.size ≤ q → A q) (hX : va_X b L xs s s.heap) (hbl : b < s.heap.size) (hbA : ¬ A b) (hL : L ≤ 3072) {n : Nat} (hn : 6 * n + 6 ≤ L) {σ ρ σ2 ρ2 : ed_S} {r : Int32} (hF : F_Desk_handle (xs (6 * n + 1)) (xs (6 * n + 2)) (xs (6 * n + 3)) σ = some (r, σ2)) (hG : F_Mod_handle (xs (6 * n + 1)) (xs (6 * n + 2)) (xs (6 * n + 3)) ρ = some (r, ρ2))
    (kk : ∀ (H : Heap) (locs : List Loc) (ls : Array Slot), va_P D vwCl (ed_w ad ca σ2 ++ md_w ad2 ca ρ2) H → va_D A (ed_w ad ca σ2 ++ md_w ad2 ca ρ2) → va_S A s.heap H locs → lv_has ls 4 [(0, .ref b), (1, .ref (ad (pDesk 0))), (2, .ref (ad2 (pMod 0))), (3, .int (nI (6 * n)))] → W p l e room_1 s m #[Value.ref b] below meth c H locs 234 1758 Q (F0 m 814 ls []))
    (H : Heap) (locs : List Loc) (ls : Array Slot) (hP : va_P D vwCl (ed_w ad ca σ ++ md_w ad2 ca ρ) H) (hD : va_D A (ed_w ad ca σ ++ md_w ad2 ca ρ)) (hS : va_S A s.heap H locs) (hl : lv_has ls 4 [(0, .ref b), (1, .ref (ad (pDesk 0))), (2, .ref (ad2 (pMod 0))), (3, .int (nI (6 * n)))]) : W p l e room_1 s m #[Value.ref b] below meth c H locs 234 1758 Q (F0 m 748 ls []) := by
  have hx := B.1
  have hb := B.2.1
  refine lv_aload_n hx hb d_Law_law_748 rfl (lv_at hl 1 rfl) ?_
  refine lv_aload_n hx hb d_Law_law_749 rfl (lv_at hl 0 rfl) ?_
  refine lv_iload_n hx hb d_Law_law_750 rfl (lv_at hl 3 rfl) ?_
  refine lv_iconst (v := 1) hx hb d_Law_law_751 (by decide) ?_
  refine lv_iadd hx hb d_Law_law_752 ?_
  refine lw_ld (k := 6 * n + 1) hx hb hX hbl hbA hS hL (nI_add (6 * n) 1) (by omega) d_Law_law_753 ?_
  refine lv_aload_n hx hb d_Law_law_754 rfl (lv_at hl 0 rfl) ?_
  refine lv_iload_n hx hb d_Law_law_755 rfl (lv_at hl 3 rfl) ?_
  refine lv_iconst (v := 2) hx hb d_Law_law_756 (by decide) ?_
  refine lv_iadd hx hb d_Law_law_757 ?_
  refine lw_ld (k := 6 * n + 2) hx hb hX hbl hbA hS hL (nI_add (6 * n) 2) (by omega) d_Law_law_758 ?_
  refine lv_aload_n hx hb d_Law_law_759 rfl (lv_at hl 0 rfl) ?_
  refine lv_iload_n hx hb d_Law_law_760 rfl (lv_at hl 3 rfl) ?_
  refine lv_iconst (v := 3) hx hb d_Law_law_761 (by decide) ?_
  refine lv_iadd hx hb d_Law_law_762 ?_
  refine lw_ld (k := 6 * n + 3) hx hb hX hbl hbA hS hL (nI_add (6 * n) 3) (by omega) d_Law_law_763 ?_
  refine lw_cI (w := (ed_w ad ca)) (wr := (md_w ad2 ca ρ)) (σ := σ) (As := [.int (xs (6 * n + 1)), .int (xs (6 * n + 2)), .int (xs (6 * n + 3))]) (rest := []) B hP hD hS hA (C_Desk_handle l D ad ca (xs (6 * n + 1)) (xs (6 * n + 2)) (xs (6 * n + 3)) σ r σ2 hF) me_Desk_handle mv_Desk_handle L_Law_92 (ed_rc_Desk (i := 0) B (ed_pL hP) (by decide)) ⟨rfl, rfl⟩ ⟨Nat.le_of_ble_eq_true rfl, Nat.le_of_ble_eq_true rfl⟩ rfl rfl hl.1 (lv_room (Nat.le_of_ble_eq_true rfl)) d_Law_law_764 ⟨Nat.le_of_ble_eq_true rfl, Nat.le_of_ble_eq_true rfl⟩ (fun H locs hP hD hS => ?_)
  refine lv_aload_n hx hb d_Law_law_767 rfl (lv_at hl 2 rfl) ?_
  refine lv_aload_n hx hb d_Law_law_768 rfl (lv_at hl 0 rfl) ?_
  refine lv_iload_n hx hb d_Law_law_769 rfl (lv_at hl 3 rfl) ?_
  refine lv_iconst (v := 1) hx hb d_Law_law_770 (by decide) ?_
  refine lv_iadd hx hb d_Law_law_771 ?_
  refine lw_ld (k := 6 * n + 1) hx hb hX hbl hbA hS hL (nI_add (6 * n) 1) (by omega) d_Law_law_772 ?_
  refine lv_aload_n hx hb d_Law_law_773 rfl (lv_at hl 0 rfl) ?_
  refine lv_iload_n hx hb d_Law_law_774 rfl (lv_at hl 3 rfl) ?_
  refine lv_iconst (v := 2) hx hb d_Law_law_775 (by decide) ?_
  refine lv_iadd hx hb d_Law_law_776 ?_
  refine lw_ld (k := 6 * n + 2) hx hb hX hbl hbA hS hL (nI_add (6 * n) 2) (by omega) d_Law_law_777 ?_
  refine lv_aload_n hx hb d_Law_law_778 rfl (lv_at hl 0 rfl) ?_
  refine lv_iload_n hx hb d_Law_law_779 rfl (lv_at hl 3 rfl) ?_
  refine lv_iconst (v := 3) hx hb d_Law_law_780 (by decide) ?_
  refine lv_iadd hx hb d_Law_law_781 ?_
  refine lw_ld (k := 6 * n + 3) hx hb hX hbl hbA hS hL (nI_add (6 * n) 3) (by omega) d_Law_law_782 ?_
  refine lw_cI (w := (md_w ad2 ca)) (wr := (ed_w ad ca σ2)) (σ := ρ) (As := [.int (xs (6 * n + 1)), .int (xs (6 * n + 2)), .int (xs (6 * n + 3))]) (rest := [.int r]) B hP hD hS hA (C_Mod_handle l D ad2 ca (xs (6 * n + 1)) (xs (6 * n + 2)) (xs (6 * n + 3)) ρ r ρ2 hG) me_Mod_handle mv_Mod_handle L_Law_95 (ed_rc_Mod (i := 0) B (ed_pL hP) (by decide)) ⟨rfl, rfl⟩ ⟨Nat.le_of_ble_eq_true rfl, Nat.le_of_ble_eq_true rfl⟩ rfl rfl hl.1 (lv_room (Nat.le_of_ble_eq_true rfl)) d_Law_law_783 ⟨Nat.le_of_ble_eq_true rfl, Nat.le_of_ble_eq_true rfl⟩ (fun H locs hP hD hS => ?_)
  refine lv_icmp_eq (tgt := 814) hx hb d_Law_law_786 (by decide) (fun c0 => ?_) (fun c0 => ?_)
  · exact kk H locs ls hP hD hS hl
  · exact absurd rfl c0
set_option maxHeartbeats 4000000 in
set_option maxRecDepth 100000 in
theorem lw_case19 {p : Program} {l : Launch} {e : Env} {s : State} {m : MethodId} {below : List Frame} {meth : Method} {c : Code} {D : va_G} {ca : Nat → ClassId} {A : Nat → Prop} {Q : State → Prop} {b L : Nat} {xs : Nat → Int32} {ad ad2 : Nat → Nat} (B : ed_B p s m #[Value.ref b] meth c code "ExecutiveDeskLaw" 4 D ca) (hA : ∀ q : Nat, s.heap.size ≤ q → A q) (hX : va_X b L xs s s.heap) (hbl : b < s.heap.size) (hbA : ¬ A b) (hL : L ≤ 3072) {n : Nat} (hn : 6 * n + 6 ≤ L) {σ ρ σ2 ρ2 : ed_S} {r : Int32} (hF : F_Desk_count (xs (6 * n + 1)) σ = some (r, σ2)) (hG : F_Mod_count (xs (6 * n + 1)) ρ = some (r, ρ2))
    (kk : ∀ (H : Heap) (locs : List Loc) (ls : Array Slot), va_P D vwCl (ed_w ad ca σ2 ++ md_w ad2 ca ρ2) H → va_D A (ed_w ad ca σ2 ++ md_w ad2 ca ρ2) → va_S A s.heap H locs → lv_has ls 4 [(0, .ref b), (1, .ref (ad (pDesk 0))), (2, .ref (ad2 (pMod 0))), (3, .int (nI (6 * n)))] → W p l e room_1 s m #[Value.ref b] below meth c H locs 234 1758 Q (F0 m 814 ls []))
    (H : Heap) (locs : List Loc) (ls : Array Slot) (hP : va_P D vwCl (ed_w ad ca σ ++ md_w ad2 ca ρ) H) (hD : va_D A (ed_w ad ca σ ++ md_w ad2 ca ρ)) (hS : va_S A s.heap H locs) (hl : lv_has ls 4 [(0, .ref b), (1, .ref (ad (pDesk 0))), (2, .ref (ad2 (pMod 0))), (3, .int (nI (6 * n)))]) : W p l e room_1 s m #[Value.ref b] below meth c H locs 234 1758 Q (F0 m 791 ls []) := by
  have hx := B.1
  have hb := B.2.1
  refine lv_aload_n hx hb d_Law_law_791 rfl (lv_at hl 1 rfl) ?_
  refine lv_aload_n hx hb d_Law_law_792 rfl (lv_at hl 0 rfl) ?_
  refine lv_iload_n hx hb d_Law_law_793 rfl (lv_at hl 3 rfl) ?_
  refine lv_iconst (v := 1) hx hb d_Law_law_794 (by decide) ?_
  refine lv_iadd hx hb d_Law_law_795 ?_
  refine lw_ld (k := 6 * n + 1) hx hb hX hbl hbA hS hL (nI_add (6 * n) 1) (by omega) d_Law_law_796 ?_
  refine lw_cI (w := (ed_w ad ca)) (wr := (md_w ad2 ca ρ)) (σ := σ) (As := [.int (xs (6 * n + 1))]) (rest := []) B hP hD hS hA (C_Desk_count l D ad ca (xs (6 * n + 1)) σ r σ2 hF) me_Desk_count mv_Desk_count L_Law_96 (ed_rc_Desk (i := 0) B (ed_pL hP) (by decide)) ⟨rfl, rfl⟩ ⟨Nat.le_of_ble_eq_true rfl, Nat.le_of_ble_eq_true rfl⟩ rfl rfl hl.1 (lv_room (Nat.le_of_ble_eq_true rfl)) d_Law_law_797 ⟨Nat.le_of_ble_eq_true rfl, Nat.le_of_ble_eq_true rfl⟩ (fun H locs hP hD hS => ?_)
  refine lv_aload_n hx hb d_Law_law_800 rfl (lv_at hl 2 rfl) ?_
  refine lv_aload_n hx hb d_Law_law_801 rfl (lv_at hl 0 rfl) ?_
  refine lv_iload_n hx hb d_Law_law_802 rfl (lv_at hl 3 rfl) ?_
  refine lv_iconst (v := 1) hx hb d_Law_law_803 (by decide) ?_
  refine lv_iadd hx hb d_Law_law_804 ?_
  refine lw_ld (k := 6 * n + 1) hx hb hX hbl hbA hS hL (nI_add (6 * n) 1) (by omega) d_Law_law_805 ?_
  refine lw_cI (w := (md_w ad2 ca)) (wr := (ed_w ad ca σ2)) (σ := ρ) (As := [.int (xs (6 * n + 1))]) (rest := [.int r]) B hP hD hS hA (C_Mod_count l D ad2 ca (xs (6 * n + 1)) ρ r ρ2 hG) me_Mod_count mv_Mod_count L_Law_99 (ed_rc_Mod (i := 0) B (ed_pL hP) (by decide)) ⟨rfl, rfl⟩ ⟨Nat.le_of_ble_eq_true rfl, Nat.le_of_ble_eq_true rfl⟩ rfl rfl hl.1 (lv_room (Nat.le_of_ble_eq_true rfl)) d_Law_law_806 ⟨Nat.le_of_ble_eq_true rfl, Nat.le_of_ble_eq_true rfl⟩ (fun H locs hP hD hS => ?_)
  refine lv_icmp_eq (tgt := 814) hx hb d_Law_law_809 (by decide) (fun c0 => ?_) (fun c0 => ?_)
  · exact kk H locs ls hP hD hS hl
  · exact absurd rfl c0
