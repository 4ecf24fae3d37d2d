def ed_n2 : Cond := .methodLinkNest "ExecutiveDesk$Scheduler" 30 ⟨"ExecutiveDesk$ThreadState", "<init>", "()V"⟩ "ExecutiveDesk"
def ed_n3 : Cond := .methodLinkNest "ExecutiveDesk" 52 ⟨"ExecutiveDesk$ObjectState", "<init>", "()V"⟩ "ExecutiveDesk"
def ed_n4 : Cond := .methodLinkNest "ExecutiveDesk$ObjectState" 11 ⟨"ExecutiveDesk$RuleList", "<init>", "()V"⟩ "ExecutiveDesk"
def ed_n5 : Cond := .methodLinkNest "ExecutiveDesk" 53 ⟨"ExecutiveDesk$TransferState", "<init>", "()V"⟩ "ExecutiveDesk"
/-- what the constructors need besides the words: nest links, array classes over the own classes -/
def ed_X (U : State) : Prop := (va_Nw ed_n2 U ∧ va_Nw ed_n3 U ∧ va_Nw ed_n4 U ∧ va_Nw ed_n5 U) ∧ va_AO "ExecutiveDesk$ProcessState" U ∧ va_AO "ExecutiveDesk$ThreadState" U ∧ va_AO "ExecutiveDesk$Row" U ∧ va_AO "ExecutiveDesk$ObjectState" U ∧ va_AO "ExecutiveDesk$TransferState" U
theorem ed_X.moved {s U : State} (hW : s.WarmedH U.vm) (h : ed_X s) : ed_X U := ⟨⟨va_Nw.warmM hW h.1.1, va_Nw.warmM hW h.1.2.1, va_Nw.warmM hW h.1.2.2.1, va_Nw.warmM hW h.1.2.2.2⟩, va_AO.moved hW.alike h.2.1, va_AO.moved hW.alike h.2.2.1, va_AO.moved hW.alike h.2.2.2.1, va_AO.moved hW.alike h.2.2.2.2.1, va_AO.moved hW.alike h.2.2.2.2.2⟩
theorem ed_X.same {s U : State} (hv : s.vm = U.vm) (h : ed_X s) : ed_X U := by
  have ha : s.vm.Alike U.vm := by rw [hv]; exact Vm.Alike.refl _
  exact ⟨⟨va_Nw.same rfl hv h.1.1, va_Nw.same rfl hv h.1.2.1, va_Nw.same rfl hv h.1.2.2.1, va_Nw.same rfl hv h.1.2.2.2⟩, va_AO.moved ha h.2.1, va_AO.moved ha h.2.2.1, va_AO.moved ha h.2.2.2.1, va_AO.moved ha h.2.2.2.2.1, va_AO.moved ha h.2.2.2.2.2⟩
def ed_Bc (p : Program) (s : State) (m : MethodId) (args : Array Value) (meth : Method) (c : Code) (cc : ByteArray) (own : String) (nL : Nat) (D : va_G) (ca : Nat → ClassId) : Prop :=
  p.tables.exec = Jvm.exec ∧ c.code = cc ∧ c.maxLocals = nL ∧ s.vm.findClass own = some m.cls ∧ (∀ w ∈ ed_tb, w.before args s = true) ∧ va_K D vwCl (ed_ty ca) s ∧ meth.locks = false ∧ ed_X s ∧ meth.name = "<init>" ∧ meth.sig.returnType = none
def ed_pk (D : va_G) (ca : Nat → ClassId) (av : List Value) (w0 : va_W) (sz : Nat) : Array Value → State → Prop := va_Pc av (fun U => U.heap.size = sz ∧ va_P D vwCl w0 U.heap ∧ va_K D vwCl (ed_ty ca) U ∧ va_D (fun _ => True) w0 ∧ ed_X U)
def ed_bk (D : va_G) (ca : Nat → ClassId) (A : Nat → Prop) (w : va_W) (t : State) : Prop := va_P D vwCl w t.heap ∧ va_K D vwCl (ed_ty ca) t ∧ va_D A w
def ed_MC (l : Launch) (y : MethodName) (ws : List Cond) (rm : Room) (D : va_G) (ca : Nat → ClassId) (mc ms : Nat) (av : List Value) (w0 : va_W) (post : va_W → Prop) : Prop := ∀ sz : Nat, Met l y ws rm (ed_pk D ca av w0 sz) (va_Qv post (ed_bk D ca (va_A w0 sz)) (va_A w0 sz)) mc ms (va_A w0 sz)
theorem ed_metC {l : Launch} {y : MethodName} {ws : List Cond} {rm : Room} {D : va_G} {ca : Nat → ClassId} {mc ms : Nat} {av : List Value} {w0 : va_W} {post : va_W → Prop} {cc : ByteArray} {own : String} {nL : Nat} (hy : plainName y.cls = true) (hw : ws = Cond.code y cc nL none :: ed_tb) (hown : y.cls = own) (hin : y.name = "<init>") (hlen : (lg_sl av).length ≤ nL)
    (body : ∀ (p : Program) (e : Env) (s : State) (m : MethodId) (args : Array Value) (below : List Frame) (meth : Method) (c : Code) (A : Nat → Prop), ed_Bc p s m args meth c cc own nL D ca → (∀ q : Nat, s.heap.size ≤ q → A q) → ∀ ls : Array Slot, va_P D vwCl w0 s.heap → va_D A w0 → va_S A s.heap s.heap [] → lv_has ls nL (lv_args 0 av) → W p l e rm s m args below meth c s.heap [] 0 0 (MQ below (va_Qv post (ed_bk D ca A) A) args s mc ms A) (F0 m 0 ls [])) : ed_MC l y ws rm D ca mc ms av w0 post := by
  intro sz
  refine Met.ofW (cc := cc) (maxL := nL) (ret := none) hy hw ?_
  intro p e s m args below meth c s₁ Bd hml hv
  obtain ⟨rfl, hsz, hP, hK, hD0, hN⟩ := hv
  have hts := atoms_spec (ws := ws) Bd.pre
  have hts2 : ∀ w ∈ ed_tb, w.before av.toArray s = true := fun w h => hts w (by rw [hw]; exact List.mem_cons_of_mem _ h)
  have ho : s.vm.findClass own = some m.cls := by rw [← hown]; exact findClass_of_methodNamed Bd.named
  have hnm : meth.name = "<init>" := by rw [← hin]; exact (name_of_methodNamed Bd.named Bd.method).1
  subst hsz
  rw [lg_entry_eq]
  exact body p e s m av.toArray below meth c _ ⟨Bd.exec, Bd.bytes, hml, ho, hts2, hK, Bd.notSynchronized, hN, hnm, Bd.returns⟩ (fun q h => Or.inr h) _ hP hD0.self va_S.rf (lv_entry av hlen)
theorem va_RA_fc {U : State} {cA : ClassId} {ty : FieldType} (h : va_RA U cA ty) : U.vm.findClass ("[" ++ ty.toString) = some cA := by
  cases ty with
  | object C => exact h.choose_spec.choose_spec.2.2.2
  | _ => exact h
theorem ed_caE {D : va_G} {ca : Nat → ClassId} {s : State} {cA : ClassId} {ty : FieldType} (t0 : Nat) {x : ClassId} (h : va_K D vwCl (ed_ty ca ++ [(cA, ty)]) s) (ht : (ed_ty ca)[t0]? = some (x, ty)) : cA = x := by
  have a := va_RA_fc (h.2 7 (cA, ty) rfl).2
  have hl : t0 < (ed_ty ca).length := (List.getElem?_eq_some_iff.mp ht).1
  have b := va_RA_fc (h.2 t0 (x, ty) (by rw [List.getElem?_append_left hl]; exact ht)).2
  exact Option.some.inj (a.symm.trans b)
theorem va_nd_of : ∀ (l : List Nat), l.Nodup → va_nd l = true
  | [], _ => rfl
  | a :: l, h => by
    have h := List.nodup_cons.mp h
    simp [va_nd, h.1, va_nd_of l h.2]
theorem ed_nd2 (a n : Nat) : ((List.range n).map (fun i => a + i)).Nodup := List.pairwise_map.mpr (List.Pairwise.imp (fun h q => h (by omega)) List.nodup_range)
theorem ed_rng (a b : va_W) : (List.range a.length).map (fun i => (a ++ b)[i]?) = a.map some := by
  apply List.ext_getElem?
  intro i
  by_cases hi : i < a.length
  · simp [hi, List.getElem?_append_left]
  · simp [hi, Nat.not_lt.mp hi]
theorem ed_rng2 (a b : va_W) : ((List.range b.length).map (fun i => a.length + i)).map (fun i => (a ++ b)[i]?) = b.map some := by
  apply List.ext_getElem?
  intro i
  by_cases hi : i < b.length
  · simp [hi, List.getElem?_append_right]
  · simp [hi, Nat.not_lt.mp hi]
/-- the callee's world is the right part -/
theorem ed_jR {D : va_G} {A : Nat → Prop} {wa wb w1 : va_W} {H H1 : Heap} (hP : va_P D vwCl (wa ++ wb) H) (hD : va_D A (wa ++ wb)) (hk : ∀ q : Nat, q < H.size → ¬ va_A wb H.size q → H1[q]? = H[q]?) (hF : ∀ q, va_A wb H.size q → A q) (hP1 : va_P D vwCl w1 H1) (hD1 : va_D (va_A wb H.size) w1) : va_P D vwCl (wa ++ w1) H1 ∧ va_D A (wa ++ w1) := by
  refine va_join (wc := wb) (wr := wa) hP hD ((List.range wb.length).map (fun i => wa.length + i)) (List.range wa.length) (ed_rng2 wa wb) (ed_rng wa wb) (va_nd_of _ List.nodup_range) (fun i hi hj => ?_) hk hF hP1 hD1
  have h1 := List.mem_range.mp hi
  obtain ⟨k, -, h2⟩ := List.mem_map.mp hj
  omega
/-- the callee's world is the left part -/
theorem ed_jL {D : va_G} {A : Nat → Prop} {wa wb w1 : va_W} {H H1 : Heap} (hP : va_P D vwCl (wa ++ wb) H) (hD : va_D A (wa ++ wb)) (hk : ∀ q : Nat, q < H.size → ¬ va_A wa H.size q → H1[q]? = H[q]?) (hF : ∀ q, va_A wa H.size q → A q) (hP1 : va_P D vwCl w1 H1) (hD1 : va_D (va_A wa H.size) w1) : va_P D vwCl (wb ++ w1) H1 ∧ va_D A (wb ++ w1) := by
  refine va_join (wc := wa) (wr := wb) hP hD (List.range wa.length) ((List.range wb.length).map (fun i => wa.length + i)) (ed_rng wa wb) (ed_rng2 wa wb) (va_nd_of _ ?_) (fun i hi hj => ?_) hk hF hP1 hD1
  · exact ed_nd2 _ _
  · have h1 := List.mem_range.mp hj
    obtain ⟨k, -, h2⟩ := List.mem_map.mp hi
    omega
theorem ed_pR {D : va_G} {wa wb : va_W} {H : Heap} (hP : va_P D vwCl (wa ++ wb) H) : va_P D vwCl wb H := fun k q h => hP (wa.length + k) q (by rw [List.getElem?_append_right (by omega), show wa.length + k - wa.length = k by omega]; exact h)
theorem ed_pL {D : va_G} {wa wb : va_W} {H : Heap} (hP : va_P D vwCl (wa ++ wb) H) : va_P D vwCl wa H := fun k q h => hP k q (by rw [List.getElem?_append_left (List.getElem?_eq_some_iff.mp h).1]; exact h)
theorem ed_dR {A : Nat → Prop} {wa wb : va_W} (hD : va_D A (wa ++ wb)) : va_D A wb := hD.sub ((List.range wb.length).map (fun i => wa.length + i)) (va_nd_of _ (ed_nd2 _ _)) (ed_rng2 wa wb)
theorem ed_dL {A : Nat → Prop} {wa wb : va_W} (hD : va_D A (wa ++ wb)) : va_D A wa := hD.sub (List.range wa.length) (va_nd_of _ List.nodup_range) (ed_rng wa wb)
theorem ed_fW {A : Nat → Prop} {w : va_W} {H0 H : Heap} {locs : List Loc} (hD : va_D A w) (hS : va_S A H0 H locs) (hA : ∀ q : Nat, H0.size ≤ q → A q) : ∀ q, va_A w H.size q → A q := by
  intro q h
  rcases h with ⟨k, z, h⟩ | h
  · exact hD.2 k _ h
  · exact hA q (Nat.le_trans hS.1 h)
section EDC
variable {p : Program} {l : Launch} {e : Env} {R : Room} {s : State} {m : MethodId} {args : Array Value} {below : List Frame} {meth : Method} {c : Code} {H : Heap} {locs : List Loc} {cells slots : Nat} {Q : State → Prop}
variable {cc : ByteArray} {pc index nL mc ms : Nat} {ls : Array Slot} {rest : List Value} {D : va_G} {ca : Nat → ClassId} {A : Nat → Prop} {own : String} {w0 wf : va_W} {post : va_W → Prop}
theorem ed_rC {w : va_W} (B : ed_Bc p s m args meth c cc own nL D ca) (hP : va_P D vwCl w H) (hD : va_D A w) (hS : va_S A s.heap H locs) (hw : post w) (hdg : decode cc pc = .ok (.return_, 1)) : W p l e R s m args below meth c H locs mc ms (MQ below (va_Qv post (ed_bk D ca A) A) args s mc ms A) (F0 m pc ls []) :=
  W.vret B.1 B.2.1 B.2.2.2.2.2.2.2.2.2 (fun t ht hW => ⟨⟨w, rfl, hw, by rw [ht]; exact hP, va_K.moved hW.alike B.2.2.2.2.2.1, hD⟩, hS.F ht⟩) hS.2.2 hdg B.2.2.2.2.2.2.1
theorem ed_bkB {av : List Value} {sz : Nat} : FrameBlind (ed_pk D ca av w0 sz) := fun a U g mk q => by
  obtain ⟨q0, q1, qP, qK, qD, qN⟩ := q
  exact ⟨q0, q1, qP, va_K.moved (u := U) (U := U.calling g mk a) (Vm.Alike.refl U.vm) qK, qD, ed_X.same rfl qN⟩
theorem ed_ciG {y : MethodName} {rm : Room} {As : List Value} {a : Nat} {e0 : va_E} {st0 : List Value} {ws : List Cond} (hX : ed_X s) (hK : va_K D vwCl (ed_ty ca) s) (hP : va_P D vwCl (wf ++ [(a, e0)]) H) (hD : va_D A (wf ++ [(a, e0)])) (hS : va_S A s.heap H locs) (hA : ∀ q : Nat, s.heap.size ≤ q → A q)
    (run : PreS s H (ed_pk D ca (.ref a :: As) [(a, e0)] H.size) (.ref a :: As) → va_Run p l e R s m args below meth c H locs cells slots mc ms (F0 m pc ls st0) rest (va_Qv post (ed_bk D ca (va_A [(a, e0)] H.size)) (va_A [(a, e0)] H.size) (Value.ref a :: As).toArray) (va_A [(a, e0)] H.size))
    (kk : ∀ (w1 : va_W) (H1 : Heap) (locs1 : List Loc), post w1 → va_P D vwCl (wf ++ w1) H1 → va_D A (wf ++ w1) → va_S A s.heap H1 locs1 → W p l e R s m args below meth c H1 locs1 (cells + mc) (slots + ms) Q (F0 m (pc + 3) ls rest)) : W p l e R s m args below meth c H locs cells slots Q (F0 m pc ls st0) := by
  have hPc := ed_pR hP
  have hDc := ed_dR hD
  have hF := ed_fW hDc hS hA
  refine va_callv (run ⟨ed_bkB, fun U hU hW => ⟨rfl, by rw [hU], by rw [hU]; exact hPc, va_K.moved hW.alike hK, hDc.weaken (fun _ _ _ _ => trivial), ed_X.moved hW hX⟩⟩) hS (fun q _ h => hF q h) hF (fun w1 t H1 locs1 ht hvm hw hB hz1 hk1 hS1 => ?_)
  obtain ⟨hP1, hK1, hD1⟩ := hB
  rw [ht] at hP1
  obtain ⟨hP2, hD2⟩ := ed_jR hP hD hk1 hF hP1 hD1
  exact kk w1 H1 locs1 hw hP2 hD2 hS1
theorem ed_ci {y : MethodName} {bytes : ByteArray} {maxL n : Nat} {rm : Room} {As : List Value} {a : Nat} {e0 : va_E} {st0 : List Value} (B : ed_Bc p s m args meth c cc own nL D ca) (hP : va_P D vwCl (wf ++ [(a, e0)]) H) (hD : va_D A (wf ++ [(a, e0)])) (hS : va_S A s.heap H locs) (hA : ∀ q : Nat, s.heap.size ≤ q → A q) (hM : ed_MC l y (Cond.code y bytes maxL none :: ed_tb) rm D ca mc ms (.ref a :: As) [(a, e0)] post) (me : ed_me y bytes maxL none n) (hy1 : y.name = "<init>") (hin : Cond.instanceMethod y ∈ ed_tb) (hl : Cond.methodLink own index y ∈ ed_tb) (h0 : rm.cells = mc ∧ rm.slots = ms) (hR : rm.frames + 1 ≤ R.frames ∧ 8 + (maxL + 11) + rm.locals ≤ R.locals) (hn : As.length = n) (hst : st0 = As.reverse ++ .ref a :: rest) (hsz : ls.size = nL) (hW : 2 * (F0 m pc ls st0).monitorRoom + (rest.map fun v => v.category).sum ≤ 8) (hdg : decode cc pc = .ok (.invokespecial index, 3)) (hf : cells + mc ≤ R.cells ∧ slots + ms ≤ R.slots)
    (kk : ∀ (w1 : va_W) (H1 : Heap) (locs1 : List Loc), post w1 → va_P D vwCl (wf ++ w1) H1 → va_D A (wf ++ w1) → va_S A s.heap H1 locs1 → W p l e R s m args below meth c H1 locs1 (cells + mc) (slots + ms) Q (F0 m (pc + 3) ls rest)) : W p l e R s m args below meth c H locs cells slots Q (F0 m pc ls st0) :=
  ed_ciG (y := y) (rm := rm) (ws := []) B.2.2.2.2.2.2.2.1 B.2.2.2.2.2.1 hP hD hS hA (fun hp => va_runI ⟨B.1, B.2.1, B.2.2.1, B.2.2.2.1, B.2.2.2.2.1⟩ (hM H.size) ⟨callB_of n B.2.2.2.2.1 (ed_good me.1) rfl h0.1 h0.2 (B.2.2.2.2.1 _ me.2.1) (B.2.2.2.2.1 _ hl) me.2.2 hR, hy1, B.2.2.2.2.1 _ hin⟩ hp rfl hn hsz hst hW hdg hf) kk
theorem ed_cin {y : MethodName} {host : String} {bytes : ByteArray} {maxL n : Nat} {rm : Room} {As : List Value} {a : Nat} {e0 : va_E} {st0 : List Value} (B : ed_Bc p s m args meth c cc own nL D ca) (hP : va_P D vwCl (wf ++ [(a, e0)]) H) (hD : va_D A (wf ++ [(a, e0)])) (hS : va_S A s.heap H locs) (hA : ∀ q : Nat, s.heap.size ≤ q → A q) (hM : ed_MC l y (Cond.code y bytes maxL none :: ed_tb) rm D ca mc ms (.ref a :: As) [(a, e0)] post) (me : ed_me y bytes maxL none n) (hy1 : y.name = "<init>") (hin : Cond.instanceMethod y ∈ ed_tb) (hl : va_Nw (Cond.methodLinkNest own index y host) s) (h0 : rm.cells = mc ∧ rm.slots = ms) (hR : rm.frames + 1 ≤ R.frames ∧ 8 + (maxL + 11) + rm.locals ≤ R.locals) (hn : As.length = n) (hst : st0 = As.reverse ++ .ref a :: rest) (hsz : ls.size = nL) (hW : 2 * (F0 m pc ls st0).monitorRoom + (rest.map fun v => v.category).sum ≤ 8) (hdg : decode cc pc = .ok (.invokespecial index, 3)) (hf : cells + mc ≤ R.cells ∧ slots + ms ≤ R.slots)
    (kk : ∀ (w1 : va_W) (H1 : Heap) (locs1 : List Loc), post w1 → va_P D vwCl (wf ++ w1) H1 → va_D A (wf ++ w1) → va_S A s.heap H1 locs1 → W p l e R s m args below meth c H1 locs1 (cells + mc) (slots + ms) Q (F0 m (pc + 3) ls rest)) : W p l e R s m args below meth c H locs cells slots Q (F0 m pc ls st0) :=
  ed_ciG (y := y) (rm := rm) (ws := []) B.2.2.2.2.2.2.2.1 B.2.2.2.2.2.1 hP hD hS hA (fun hp => va_runIN (host := host) ⟨B.1, B.2.1, B.2.2.1, B.2.2.2.1, B.2.2.2.2.1⟩ (hM H.size) ⟨va_cnB n B.2.2.2.2.1 (ed_good me.1) rfl h0.1 h0.2 hl (B.2.2.2.2.1 _ me.2.1) me.2.2 hR, hy1, B.2.2.2.2.1 _ hin⟩ hp rfl hn hsz hst hW hdg hf) kk
end EDC
