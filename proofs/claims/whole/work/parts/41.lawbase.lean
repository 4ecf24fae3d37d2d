/-! THE CLAIM OUT OF ONE WALK OF THE LAW'S BODY. Your part is whole_start (and what it stands on); all else here is the same for every law, but numbers. -/
def R_law : String := "ExecutiveDeskLaw"
def lw_P (b : Addr) (xs : List Int32) (args : Array Value) (s : State) : Prop := args = #[.ref b] ∧ s.IntsAt b xs ∧ xs.length ≤ 3072 ∧ (Jvm.Cond.and given_1 narrow_1).before args s = true
def lw_Q (_ : Array Value) (s : State) (o : Outcome) (t : State) : Prop := o = .returned (some (.int 1)) ∧ Framed s o t [] 625647 7225306
def lw_Z (below : List Frame) (a : Array Value) (s : State) : State → Prop := fun t => ∃ o, t.status = .running ∧ Ended t below o ∧ lw_Q a s o t
/-- the law's own end, with 1 on the stack, nothing written that was there before, its room as the claim has it -/
theorem lw_ret {p : Program} {l : Launch} {e : Env} {s : State} {m : MethodId} {below : List Frame} {meth : Method} {c : Code} {b : Nat} (hx : p.tables.exec = Jvm.exec) (hb : c.code = code) (hr : meth.sig.returnType = ret) (hlocks : meth.locks = false) {pc : Nat} {H : Heap} {ls : Array Slot} (hdg : decode code pc = .ok (.ireturn, 1)) : W p l e room_1 s m #[Value.ref b] below meth c H [] 625647 7225306 (lw_Z below #[Value.ref b] s) (F0 m pc ls [.int 1]) := by
  intro T hT X
  obtain ⟨fs, hret, hrun, hended, hW, hframe⟩ := X.leave (v := some (.int 1)) (hlocks := hlocks) (fun h => by rw [hr] at h; cases h)
  have hmeth' : T.vm.method? m = some meth := X.method'
  refine ⟨T.setFrames fs, ?_, .returned (some (.int 1)), hrun, hended, rfl, ⟨_, rfl⟩, hW, hframe⟩
  jvm_step X.here [X.here.top, hx, hb, hdg, hmeth', hr, ret, narrow_b1]
  (try refine ⟨rfl, ?_⟩); (try refine ⟨rfl, ?_⟩)
  first | (intro acts; rw [hret _ acts rfl rfl rfl]) | rw [hret _ _ rfl rfl rfl]
  exact Steps.refl _
/-- what holds at the law's entry: the machine, the code, the tables' words (any of lw_tbl by 'hts w (by decide +kernel)'), the script of L ints xs at the cell b, what the Statement gives of the start (any of its parts by flat_of_before) -/
def lw_At (p : Program) (s : State) (m : MethodId) (meth : Method) (c : Code) (b L : Nat) (xs : Nat → Int32) : Prop :=
  p.tables.exec = Jvm.exec ∧ c.code = code ∧ meth.sig.returnType = ret ∧ c.maxLocals = 4 ∧ s.vm.findClass R_law = some m.cls ∧ (∀ w ∈ lw_tbl, w.before #[Value.ref b] s = true) ∧ va_X b L xs s s.heap ∧ b < s.heap.size ∧ meth.locks = false ∧ (Jvm.Cond.and given_1 narrow_1).before #[Value.ref b] s = true

section EDL
variable {p : Program} {l : Launch} {e : Env} {R : Room} {s : State} {m : MethodId} {args : Array Value} {below : List Frame} {meth : Method} {c : Code} {H : Heap} {locs : List Loc} {cells slots : Nat} {Q : State → Prop}
variable {cc : ByteArray} {pc index nL : Nat} {ls : Array Slot} {rest : List Value} {D : va_G} {ca : Nat → ClassId} {A : Nat → Prop} {σ σ2 : ed_S} {own : String} {w : ed_S → va_W} {wr : va_W}
/-- a call whose world is the left part: behind it the parts have changed places -/
theorem lw_cI {y : MethodName} {bytes : ByteArray} {maxL n : Nat} {ret : Option FieldType} {rm : Room} {As : List Value} {b : Nat} {r : Int32} {st0 : List Value} (B : ed_B p s m args meth c cc own nL D ca) (hP : va_P D vwCl (w σ ++ wr) H) (hD : va_D A (w σ ++ wr)) (hS : va_S A s.heap H locs) (hA : ∀ q : Nat, s.heap.size ≤ q → A q) (hM : ed_MI l y (Cond.code y bytes maxL ret :: ed_tb) rm D ca w (.ref b :: As) σ r σ2) (me : ed_me y bytes maxL ret n) (mv : ed_mv y) (hl : Cond.methodLink own index y ∈ ed_tb) (hrc : ∃ cell : Cell, H[b]? = some cell ∧ cell.vm.isStatics = false ∧ s.vm.findClass y.cls = some cell.cls) (h0 : rm.cells = 0 ∧ rm.slots = 0) (hR : rm.frames + 1 ≤ R.frames ∧ 8 + (maxL + 11) + rm.locals ≤ R.locals) (hn : As.length = n) (hst : st0 = As.reverse ++ .ref b :: rest) (hsz : ls.size = nL) (hW : 2 * (F0 m pc ls st0).monitorRoom + (rest.map fun v => v.category).sum ≤ 8) (hdg : decode cc pc = .ok (.invokevirtual index, 3)) (hf : cells + 0 ≤ R.cells ∧ slots + 0 ≤ R.slots)
    (kk : ∀ (H1 : Heap) (locs1 : List Loc), va_P D vwCl (wr ++ w σ2) H1 → va_D A (wr ++ w σ2) → va_S A s.heap H1 locs1 → W p l e R s m args below meth c H1 locs1 cells slots Q (F0 m (pc + 3) ls (.int r :: rest))) : W p l e R s m args below meth c H locs cells slots Q (F0 m pc ls st0) := by
  have hPc := ed_pL hP
  have hDc := ed_dL hD
  have hF := ed_fW hDc hS hA
  refine va_calli (va_runV ⟨B.1, B.2.1, B.2.2.1, B.2.2.2.1, B.2.2.2.2.1⟩ (hM H.size) ⟨ed_lB B me hl h0 hR, B.2.2.2.2.1 _ mv.1, B.2.2.2.2.1 _ mv.2⟩ ⟨ed_blind, hrc, ed_pre B hPc hDc⟩ rfl hn hsz hst hW hdg hf) hS (fun q _ h => hF q h) hF (fun r1 u t H1 locs1 ht hvm hw hB hz1 hk1 hS1 => ?_)
  obtain ⟨rfl, rfl⟩ := hw
  obtain ⟨hP1, hK1, hD1⟩ := hB
  rw [ht] at hP1
  obtain ⟨hP2, hD2⟩ := ed_jL hP hD hk1 hF hP1 hD1
  exact kk H1 locs1 hP2 hD2 hS1
theorem lw_ld {b L k : Nat} {xs : Nat → Int32} {v : Int32} (hx : p.tables.exec = Jvm.exec) (hb : c.code = cc) (hX : va_X b L xs s s.heap) (hbl : b < s.heap.size) (hbA : ¬ A b) (hS : va_S A s.heap H locs) (hL : L ≤ 3072) (hv : v = nI k) (hk : k < L) (hdg : decode cc pc = .ok (.iaload, 1))
    (kk : W p l e R s m args below meth c H locs cells slots Q (F0 m (pc + 1) ls (.int (xs k) :: rest))) : W p l e R s m args below meth c H locs cells slots Q (F0 m pc ls (.int v :: .ref b :: rest)) := by
  subst hv
  refine va_sld hx hb hX hbl hbA hS (vp_in_nI hk (by omega)) hdg ?_
  rw [nI_clamp (by omega)]
  exact kk
end EDL
/-- what the law asks of the pure functions: a relation that holds at the first states, is kept by each call, and gives equal answers -/
def ed_Sim (S : Nat → ed_S → ed_S → Prop) : Prop := S 0 ed_s0 md_s0 ∧ (∀ n σ ρ, S n σ ρ → S (n + 1) σ ρ)
  ∧ (∀ (n : Nat) (x1 : Int32) (σ ρ : ed_S), n < 512 → S n σ ρ → ∃ (r : Int32) (σ2 ρ2 : ed_S), F_Desk_process x1 σ = some (r, σ2) ∧ F_Mod_process x1 ρ = some (r, ρ2) ∧ S (n + 1) σ2 ρ2)
  ∧ (∀ (n : Nat) (x1 x2 : Int32) (σ ρ : ed_S), n < 512 → S n σ ρ → ∃ (r : Int32) (σ2 ρ2 : ed_S), F_Desk_thread x1 x2 σ = some (r, σ2) ∧ F_Mod_thread x1 x2 ρ = some (r, ρ2) ∧ S (n + 1) σ2 ρ2)
  ∧ (∀ (n : Nat) (x1 x2 x3 : Int32) (σ ρ : ed_S), n < 512 → S n σ ρ → ∃ (r : Int32) (σ2 ρ2 : ed_S), F_Desk_create x1 x2 x3 σ = some (r, σ2) ∧ F_Mod_create x1 x2 x3 ρ = some (r, ρ2) ∧ S (n + 1) σ2 ρ2)
  ∧ (∀ (n : Nat) (x1 x2 : Int32) (σ ρ : ed_S), n < 512 → S n σ ρ → ∃ (r : Int32) (σ2 ρ2 : ed_S), F_Desk_opn x1 x2 σ = some (r, σ2) ∧ F_Mod_opn x1 x2 ρ = some (r, ρ2) ∧ S (n + 1) σ2 ρ2)
  ∧ (∀ (n : Nat) (x1 : Int32) (σ ρ : ed_S), n < 512 → S n σ ρ → ∃ (r : Int32) (σ2 ρ2 : ed_S), F_Desk_clse x1 σ = some (r, σ2) ∧ F_Mod_clse x1 ρ = some (r, ρ2) ∧ S (n + 1) σ2 ρ2)
  ∧ (∀ (n : Nat) (x1 x2 x3 x4 : Int32) (σ ρ : ed_S), n < 512 → S n σ ρ → ∃ (r : Int32) (σ2 ρ2 : ed_S), F_Desk_rule x1 x2 x3 x4 σ = some (r, σ2) ∧ F_Mod_rule x1 x2 x3 x4 ρ = some (r, ρ2) ∧ S (n + 1) σ2 ρ2)
  ∧ (∀ (n : Nat) (x1 x2 : Int32) (σ ρ : ed_S), n < 512 → S n σ ρ → ∃ (r : Int32) (σ2 ρ2 : ed_S), F_Desk_sett x1 x2 σ = some (r, σ2) ∧ F_Mod_sett x1 x2 ρ = some (r, ρ2) ∧ S (n + 1) σ2 ρ2)
  ∧ (∀ (n : Nat) (x1 x2 x3 x4 x5 : Int32) (σ ρ : ed_S), n < 512 → S n σ ρ → ∃ (r : Int32) (σ2 ρ2 : ed_S), F_Desk_await x1 x2 x3 x4 x5 σ = some (r, σ2) ∧ F_Mod_await x1 x2 x3 x4 x5 ρ = some (r, ρ2) ∧ S (n + 1) σ2 ρ2)
  ∧ (∀ (n : Nat) (x1 x2 : Int32) (σ ρ : ed_S), n < 512 → S n σ ρ → ∃ (r : Int32) (σ2 ρ2 : ed_S), F_Desk_call x1 x2 σ = some (r, σ2) ∧ F_Mod_call x1 x2 ρ = some (r, ρ2) ∧ S (n + 1) σ2 ρ2)
  ∧ (∀ (n : Nat) (x1 : Int32) (σ ρ : ed_S), n < 512 → S n σ ρ → ∃ (r : Int32) (σ2 ρ2 : ed_S), F_Desk_level x1 σ = some (r, σ2) ∧ F_Mod_level x1 ρ = some (r, ρ2) ∧ S (n + 1) σ2 ρ2)
  ∧ (∀ (n : Nat) (x1 x2 : Int32) (σ ρ : ed_S), n < 512 → (x2 = 0 ∨ x2 = 1) → S n σ ρ → ∃ (r : Int32) (σ2 ρ2 : ed_S), F_Desk_interrupt x1 x2 σ = some (r, σ2) ∧ F_Mod_interrupt x1 x2 ρ = some (r, ρ2) ∧ S (n + 1) σ2 ρ2)
  ∧ (∀ (n : Nat) (x1 x2 x3 x4 : Int32) (σ ρ : ed_S), n < 512 → S n σ ρ → ∃ (r : Int32) (σ2 ρ2 : ed_S), F_Desk_transfer x1 x2 x3 x4 σ = some (r, σ2) ∧ F_Mod_transfer x1 x2 x3 x4 ρ = some (r, ρ2) ∧ S (n + 1) σ2 ρ2)
  ∧ (∀ (n : Nat) (x1 : Int32) (σ ρ : ed_S), n < 512 → S n σ ρ → ∃ (r : Int32) (σ2 ρ2 : ed_S), F_Desk_cancel x1 σ = some (r, σ2) ∧ F_Mod_cancel x1 ρ = some (r, ρ2) ∧ S (n + 1) σ2 ρ2)
  ∧ (∀ (n : Nat) (σ ρ : ed_S), n < 512 → S n σ ρ → ∃ (r : Int32) (σ2 ρ2 : ed_S), F_Desk_exit  σ = some (r, σ2) ∧ F_Mod_exit  ρ = some (r, ρ2) ∧ S (n + 1) σ2 ρ2)
  ∧ (∀ (n : Nat) (x1 : Int32) (σ ρ : ed_S), n < 512 → S n σ ρ → ∃ (r : Int32) (σ2 ρ2 : ed_S), F_Desk_tick x1 σ = some (r, σ2) ∧ F_Mod_tick x1 ρ = some (r, ρ2) ∧ S (n + 1) σ2 ρ2)
  ∧ (∀ (n : Nat) (x1 x2 : Int32) (σ ρ : ed_S), n < 512 → S n σ ρ → ∃ (r : Int32) (σ2 ρ2 : ed_S), F_Desk_actor x1 x2 σ = some (r, σ2) ∧ F_Mod_actor x1 x2 ρ = some (r, ρ2) ∧ S (n + 1) σ2 ρ2)
  ∧ (∀ (n : Nat) (x1 x2 : Int32) (σ ρ : ed_S), n < 512 → S n σ ρ → ∃ (r : Int32) (σ2 ρ2 : ed_S), F_Desk_object x1 x2 σ = some (r, σ2) ∧ F_Mod_object x1 x2 ρ = some (r, ρ2) ∧ S (n + 1) σ2 ρ2)
  ∧ (∀ (n : Nat) (x1 x2 : Int32) (σ ρ : ed_S), n < 512 → S n σ ρ → ∃ (r : Int32) (σ2 ρ2 : ed_S), F_Desk_io x1 x2 σ = some (r, σ2) ∧ F_Mod_io x1 x2 ρ = some (r, ρ2) ∧ S (n + 1) σ2 ρ2)
  ∧ (∀ (n : Nat) (x1 x2 x3 : Int32) (σ ρ : ed_S), n < 512 → S n σ ρ → ∃ (r : Int32) (σ2 ρ2 : ed_S), F_Desk_handle x1 x2 x3 σ = some (r, σ2) ∧ F_Mod_handle x1 x2 x3 ρ = some (r, ρ2) ∧ S (n + 1) σ2 ρ2)
  ∧ (∀ (n : Nat) (x1 : Int32) (σ ρ : ed_S), n < 512 → S n σ ρ → ∃ (r : Int32) (σ2 ρ2 : ed_S), F_Desk_count x1 σ = some (r, σ2) ∧ F_Mod_count x1 ρ = some (r, ρ2) ∧ S (n + 1) σ2 ρ2)
