section EDF
variable {p : Program} {l : Launch} {e : Env} {R : Room} {s : State} {m : MethodId} {args : Array Value} {below : List Frame} {meth : Method} {c : Code} {H : Heap} {locs : List Loc} {cells slots : Nat} {Q : State → Prop}
variable {cc : ByteArray} {pc index nL : Nat} {ls : Array Slot} {rest : List Value} {D : va_G} {ad : Nat → Nat} {ca : Nat → ClassId} {A : Nat → Prop} {σ σ1 σ2 : ed_S} {i j : Nat} {v x : Int32} {own : String}
theorem gf_Mod_groups (B : ed_B p s m args meth c cc own nL D ca) (hP : va_P D vwCl (md_w ad ca σ) H) (h : i < 1) (hlink : Cond.fieldLink own index "ExecutiveDeskModel" "groups" "[I" ∈ ed_tb) (hdg : decode cc pc = .ok (.getfield index, 3))
    (kk : W p l e R s m args below meth c H locs cells slots Q (F0 m (pc + 3) ls (.ref (ad (pMgroups 0)) :: rest))) : W p l e R s m args below meth c H locs cells slots Q (F0 m pc ls (.ref (ad (pMod i)) :: rest)) :=
  va_get (D := D) (ci := 8) (C := "ExecutiveDeskModel") (T := T_Mod) (N := 53) B.1 B.2.1 B.2.2.2.2.1 iw_Mod B.2.2.2.1 B.2.2.2.2.2.1 hP (pMod i) (md_w_Mod h) rfl 0 (by decide) (B.2.2.2.2.1 _ hlink) (fun _ q => q) rfl hdg kk
theorem gf_Mod_alive (B : ed_B p s m args meth c cc own nL D ca) (hP : va_P D vwCl (md_w ad ca σ) H) (h : i < 1) (hlink : Cond.fieldLink own index "ExecutiveDeskModel" "alive" "[I" ∈ ed_tb) (hdg : decode cc pc = .ok (.getfield index, 3))
    (kk : W p l e R s m args below meth c H locs cells slots Q (F0 m (pc + 3) ls (.ref (ad (pMalive 0)) :: rest))) : W p l e R s m args below meth c H locs cells slots Q (F0 m pc ls (.ref (ad (pMod i)) :: rest)) :=
  va_get (D := D) (ci := 8) (C := "ExecutiveDeskModel") (T := T_Mod) (N := 53) B.1 B.2.1 B.2.2.2.2.1 iw_Mod B.2.2.2.1 B.2.2.2.2.2.1 hP (pMod i) (md_w_Mod h) rfl 1 (by decide) (B.2.2.2.2.1 _ hlink) (fun _ q => q) rfl hdg kk
theorem gf_Mod_had (B : ed_B p s m args meth c cc own nL D ca) (hP : va_P D vwCl (md_w ad ca σ) H) (h : i < 1) (hlink : Cond.fieldLink own index "ExecutiveDeskModel" "had" "[I" ∈ ed_tb) (hdg : decode cc pc = .ok (.getfield index, 3))
    (kk : W p l e R s m args below meth c H locs cells slots Q (F0 m (pc + 3) ls (.ref (ad (pMhad 0)) :: rest))) : W p l e R s m args below meth c H locs cells slots Q (F0 m pc ls (.ref (ad (pMod i)) :: rest)) :=
  va_get (D := D) (ci := 8) (C := "ExecutiveDeskModel") (T := T_Mod) (N := 53) B.1 B.2.1 B.2.2.2.2.1 iw_Mod B.2.2.2.1 B.2.2.2.2.2.1 hP (pMod i) (md_w_Mod h) rfl 2 (by decide) (B.2.2.2.2.1 _ hlink) (fun _ q => q) rfl hdg kk
theorem gf_Mod_handleObject (B : ed_B p s m args meth c cc own nL D ca) (hP : va_P D vwCl (md_w ad ca σ) H) (h : i < 1) (hlink : Cond.fieldLink own index "ExecutiveDeskModel" "handleObject" "[I" ∈ ed_tb) (hdg : decode cc pc = .ok (.getfield index, 3))
    (kk : W p l e R s m args below meth c H locs cells slots Q (F0 m (pc + 3) ls (.ref (ad (pMhandleObject 0)) :: rest))) : W p l e R s m args below meth c H locs cells slots Q (F0 m pc ls (.ref (ad (pMod i)) :: rest)) :=
  va_get (D := D) (ci := 8) (C := "ExecutiveDeskModel") (T := T_Mod) (N := 53) B.1 B.2.1 B.2.2.2.2.1 iw_Mod B.2.2.2.1 B.2.2.2.2.2.1 hP (pMod i) (md_w_Mod h) rfl 3 (by decide) (B.2.2.2.2.1 _ hlink) (fun _ q => q) rfl hdg kk
theorem gf_Mod_handleRights (B : ed_B p s m args meth c cc own nL D ca) (hP : va_P D vwCl (md_w ad ca σ) H) (h : i < 1) (hlink : Cond.fieldLink own index "ExecutiveDeskModel" "handleRights" "[I" ∈ ed_tb) (hdg : decode cc pc = .ok (.getfield index, 3))
    (kk : W p l e R s m args below meth c H locs cells slots Q (F0 m (pc + 3) ls (.ref (ad (pMhandleRights 0)) :: rest))) : W p l e R s m args below meth c H locs cells slots Q (F0 m pc ls (.ref (ad (pMod i)) :: rest)) :=
  va_get (D := D) (ci := 8) (C := "ExecutiveDeskModel") (T := T_Mod) (N := 53) B.1 B.2.1 B.2.2.2.2.1 iw_Mod B.2.2.2.1 B.2.2.2.2.2.1 hP (pMod i) (md_w_Mod h) rfl 4 (by decide) (B.2.2.2.2.1 _ hlink) (fun _ q => q) rfl hdg kk
theorem gf_Mod_home (B : ed_B p s m args meth c cc own nL D ca) (hP : va_P D vwCl (md_w ad ca σ) H) (h : i < 1) (hlink : Cond.fieldLink own index "ExecutiveDeskModel" "home" "[I" ∈ ed_tb) (hdg : decode cc pc = .ok (.getfield index, 3))
    (kk : W p l e R s m args below meth c H locs cells slots Q (F0 m (pc + 3) ls (.ref (ad (pMhome 0)) :: rest))) : W p l e R s m args below meth c H locs cells slots Q (F0 m pc ls (.ref (ad (pMod i)) :: rest)) :=
  va_get (D := D) (ci := 8) (C := "ExecutiveDeskModel") (T := T_Mod) (N := 53) B.1 B.2.1 B.2.2.2.2.1 iw_Mod B.2.2.2.1 B.2.2.2.2.2.1 hP (pMod i) (md_w_Mod h) rfl 5 (by decide) (B.2.2.2.2.1 _ hlink) (fun _ q => q) rfl hdg kk
theorem gf_Mod_priority (B : ed_B p s m args meth c cc own nL D ca) (hP : va_P D vwCl (md_w ad ca σ) H) (h : i < 1) (hlink : Cond.fieldLink own index "ExecutiveDeskModel" "priority" "[I" ∈ ed_tb) (hdg : decode cc pc = .ok (.getfield index, 3))
    (kk : W p l e R s m args below meth c H locs cells slots Q (F0 m (pc + 3) ls (.ref (ad (pMpriority 0)) :: rest))) : W p l e R s m args below meth c H locs cells slots Q (F0 m pc ls (.ref (ad (pMod i)) :: rest)) :=
  va_get (D := D) (ci := 8) (C := "ExecutiveDeskModel") (T := T_Mod) (N := 53) B.1 B.2.1 B.2.2.2.2.1 iw_Mod B.2.2.2.1 B.2.2.2.2.2.1 hP (pMod i) (md_w_Mod h) rfl 6 (by decide) (B.2.2.2.2.1 _ hlink) (fun _ q => q) rfl hdg kk
theorem gf_Mod_state (B : ed_B p s m args meth c cc own nL D ca) (hP : va_P D vwCl (md_w ad ca σ) H) (h : i < 1) (hlink : Cond.fieldLink own index "ExecutiveDeskModel" "state" "[I" ∈ ed_tb) (hdg : decode cc pc = .ok (.getfield index, 3))
    (kk : W p l e R s m args below meth c H locs cells slots Q (F0 m (pc + 3) ls (.ref (ad (pMstate 0)) :: rest))) : W p l e R s m args below meth c H locs cells slots Q (F0 m pc ls (.ref (ad (pMod i)) :: rest)) :=
  va_get (D := D) (ci := 8) (C := "ExecutiveDeskModel") (T := T_Mod) (N := 53) B.1 B.2.1 B.2.2.2.2.1 iw_Mod B.2.2.2.1 B.2.2.2.2.2.1 hP (pMod i) (md_w_Mod h) rfl 7 (by decide) (B.2.2.2.2.1 _ hlink) (fun _ q => q) rfl hdg kk
theorem gf_Mod_result (B : ed_B p s m args meth c cc own nL D ca) (hP : va_P D vwCl (md_w ad ca σ) H) (h : i < 1) (hlink : Cond.fieldLink own index "ExecutiveDeskModel" "result" "[I" ∈ ed_tb) (hdg : decode cc pc = .ok (.getfield index, 3))
    (kk : W p l e R s m args below meth c H locs cells slots Q (F0 m (pc + 3) ls (.ref (ad (pMresult 0)) :: rest))) : W p l e R s m args below meth c H locs cells slots Q (F0 m pc ls (.ref (ad (pMod i)) :: rest)) :=
  va_get (D := D) (ci := 8) (C := "ExecutiveDeskModel") (T := T_Mod) (N := 53) B.1 B.2.1 B.2.2.2.2.1 iw_Mod B.2.2.2.1 B.2.2.2.2.2.1 hP (pMod i) (md_w_Mod h) rfl 8 (by decide) (B.2.2.2.2.1 _ hlink) (fun _ q => q) rfl hdg kk
theorem gf_Mod_calls (B : ed_B p s m args meth c cc own nL D ca) (hP : va_P D vwCl (md_w ad ca σ) H) (h : i < 1) (hlink : Cond.fieldLink own index "ExecutiveDeskModel" "calls" "[I" ∈ ed_tb) (hdg : decode cc pc = .ok (.getfield index, 3))
    (kk : W p l e R s m args below meth c H locs cells slots Q (F0 m (pc + 3) ls (.ref (ad (pMcalls 0)) :: rest))) : W p l e R s m args below meth c H locs cells slots Q (F0 m pc ls (.ref (ad (pMod i)) :: rest)) :=
  va_get (D := D) (ci := 8) (C := "ExecutiveDeskModel") (T := T_Mod) (N := 53) B.1 B.2.1 B.2.2.2.2.1 iw_Mod B.2.2.2.1 B.2.2.2.2.2.1 hP (pMod i) (md_w_Mod h) rfl 9 (by decide) (B.2.2.2.2.1 _ hlink) (fun _ q => q) rfl hdg kk
theorem gf_Mod_delivered (B : ed_B p s m args meth c cc own nL D ca) (hP : va_P D vwCl (md_w ad ca σ) H) (h : i < 1) (hlink : Cond.fieldLink own index "ExecutiveDeskModel" "delivered" "[I" ∈ ed_tb) (hdg : decode cc pc = .ok (.getfield index, 3))
    (kk : W p l e R s m args below meth c H locs cells slots Q (F0 m (pc + 3) ls (.ref (ad (pMdelivered 0)) :: rest))) : W p l e R s m args below meth c H locs cells slots Q (F0 m pc ls (.ref (ad (pMod i)) :: rest)) :=
  va_get (D := D) (ci := 8) (C := "ExecutiveDeskModel") (T := T_Mod) (N := 53) B.1 B.2.1 B.2.2.2.2.1 iw_Mod B.2.2.2.1 B.2.2.2.2.2.1 hP (pMod i) (md_w_Mod h) rfl 10 (by decide) (B.2.2.2.2.1 _ hlink) (fun _ q => q) rfl hdg kk
theorem gf_Mod_latest (B : ed_B p s m args meth c cc own nL D ca) (hP : va_P D vwCl (md_w ad ca σ) H) (h : i < 1) (hlink : Cond.fieldLink own index "ExecutiveDeskModel" "latest" "[I" ∈ ed_tb) (hdg : decode cc pc = .ok (.getfield index, 3))
    (kk : W p l e R s m args below meth c H locs cells slots Q (F0 m (pc + 3) ls (.ref (ad (pMlatest 0)) :: rest))) : W p l e R s m args below meth c H locs cells slots Q (F0 m pc ls (.ref (ad (pMod i)) :: rest)) :=
  va_get (D := D) (ci := 8) (C := "ExecutiveDeskModel") (T := T_Mod) (N := 53) B.1 B.2.1 B.2.2.2.2.1 iw_Mod B.2.2.2.1 B.2.2.2.2.2.1 hP (pMod i) (md_w_Mod h) rfl 11 (by decide) (B.2.2.2.2.1 _ hlink) (fun _ q => q) rfl hdg kk
theorem gf_Mod_used (B : ed_B p s m args meth c cc own nL D ca) (hP : va_P D vwCl (md_w ad ca σ) H) (h : i < 1) (hlink : Cond.fieldLink own index "ExecutiveDeskModel" "used" "[I" ∈ ed_tb) (hdg : decode cc pc = .ok (.getfield index, 3))
    (kk : W p l e R s m args below meth c H locs cells slots Q (F0 m (pc + 3) ls (.ref (ad (pMused 0)) :: rest))) : W p l e R s m args below meth c H locs cells slots Q (F0 m pc ls (.ref (ad (pMod i)) :: rest)) :=
  va_get (D := D) (ci := 8) (C := "ExecutiveDeskModel") (T := T_Mod) (N := 53) B.1 B.2.1 B.2.2.2.2.1 iw_Mod B.2.2.2.1 B.2.2.2.2.2.1 hP (pMod i) (md_w_Mod h) rfl 12 (by decide) (B.2.2.2.2.1 _ hlink) (fun _ q => q) rfl hdg kk
theorem gf_Mod_due (B : ed_B p s m args meth c cc own nL D ca) (hP : va_P D vwCl (md_w ad ca σ) H) (h : i < 1) (hlink : Cond.fieldLink own index "ExecutiveDeskModel" "due" "[I" ∈ ed_tb) (hdg : decode cc pc = .ok (.getfield index, 3))
    (kk : W p l e R s m args below meth c H locs cells slots Q (F0 m (pc + 3) ls (.ref (ad (pMdue 0)) :: rest))) : W p l e R s m args below meth c H locs cells slots Q (F0 m pc ls (.ref (ad (pMod i)) :: rest)) :=
  va_get (D := D) (ci := 8) (C := "ExecutiveDeskModel") (T := T_Mod) (N := 53) B.1 B.2.1 B.2.2.2.2.1 iw_Mod B.2.2.2.1 B.2.2.2.2.2.1 hP (pMod i) (md_w_Mod h) rfl 13 (by decide) (B.2.2.2.2.1 _ hlink) (fun _ q => q) rfl hdg kk
theorem gf_Mod_how (B : ed_B p s m args meth c cc own nL D ca) (hP : va_P D vwCl (md_w ad ca σ) H) (h : i < 1) (hlink : Cond.fieldLink own index "ExecutiveDeskModel" "how" "[I" ∈ ed_tb) (hdg : decode cc pc = .ok (.getfield index, 3))
    (kk : W p l e R s m args below meth c H locs cells slots Q (F0 m (pc + 3) ls (.ref (ad (pMhow 0)) :: rest))) : W p l e R s m args below meth c H locs cells slots Q (F0 m pc ls (.ref (ad (pMod i)) :: rest)) :=
  va_get (D := D) (ci := 8) (C := "ExecutiveDeskModel") (T := T_Mod) (N := 53) B.1 B.2.1 B.2.2.2.2.1 iw_Mod B.2.2.2.1 B.2.2.2.2.2.1 hP (pMod i) (md_w_Mod h) rfl 14 (by decide) (B.2.2.2.2.1 _ hlink) (fun _ q => q) rfl hdg kk
theorem gf_Mod_began (B : ed_B p s m args meth c cc own nL D ca) (hP : va_P D vwCl (md_w ad ca σ) H) (h : i < 1) (hlink : Cond.fieldLink own index "ExecutiveDeskModel" "began" "[I" ∈ ed_tb) (hdg : decode cc pc = .ok (.getfield index, 3))
    (kk : W p l e R s m args below meth c H locs cells slots Q (F0 m (pc + 3) ls (.ref (ad (pMbegan 0)) :: rest))) : W p l e R s m args below meth c H locs cells slots Q (F0 m pc ls (.ref (ad (pMod i)) :: rest)) :=
  va_get (D := D) (ci := 8) (C := "ExecutiveDeskModel") (T := T_Mod) (N := 53) B.1 B.2.1 B.2.2.2.2.1 iw_Mod B.2.2.2.1 B.2.2.2.2.2.1 hP (pMod i) (md_w_Mod h) rfl 15 (by decide) (B.2.2.2.2.1 _ hlink) (fun _ q => q) rfl hdg kk
theorem gf_Mod_stands (B : ed_B p s m args meth c cc own nL D ca) (hP : va_P D vwCl (md_w ad ca σ) H) (h : i < 1) (hlink : Cond.fieldLink own index "ExecutiveDeskModel" "stands" "[I" ∈ ed_tb) (hdg : decode cc pc = .ok (.getfield index, 3))
    (kk : W p l e R s m args below meth c H locs cells slots Q (F0 m (pc + 3) ls (.ref (ad (pMstands 0)) :: rest))) : W p l e R s m args below meth c H locs cells slots Q (F0 m pc ls (.ref (ad (pMod i)) :: rest)) :=
  va_get (D := D) (ci := 8) (C := "ExecutiveDeskModel") (T := T_Mod) (N := 53) B.1 B.2.1 B.2.2.2.2.1 iw_Mod B.2.2.2.1 B.2.2.2.2.2.1 hP (pMod i) (md_w_Mod h) rfl 16 (by decide) (B.2.2.2.2.1 _ hlink) (fun _ q => q) rfl hdg kk
theorem gf_Mod_place (B : ed_B p s m args meth c cc own nL D ca) (hP : va_P D vwCl (md_w ad ca σ) H) (h : i < 1) (hlink : Cond.fieldLink own index "ExecutiveDeskModel" "place" "[I" ∈ ed_tb) (hdg : decode cc pc = .ok (.getfield index, 3))
    (kk : W p l e R s m args below meth c H locs cells slots Q (F0 m (pc + 3) ls (.ref (ad (pMplace 0)) :: rest))) : W p l e R s m args below meth c H locs cells slots Q (F0 m pc ls (.ref (ad (pMod i)) :: rest)) :=
  va_get (D := D) (ci := 8) (C := "ExecutiveDeskModel") (T := T_Mod) (N := 53) B.1 B.2.1 B.2.2.2.2.1 iw_Mod B.2.2.2.1 B.2.2.2.2.2.1 hP (pMod i) (md_w_Mod h) rfl 17 (by decide) (B.2.2.2.2.1 _ hlink) (fun _ q => q) rfl hdg kk
theorem gf_Mod_row (B : ed_B p s m args meth c cc own nL D ca) (hP : va_P D vwCl (md_w ad ca σ) H) (h : i < 1) (hlink : Cond.fieldLink own index "ExecutiveDeskModel" "row" "[I" ∈ ed_tb) (hdg : decode cc pc = .ok (.getfield index, 3))
    (kk : W p l e R s m args below meth c H locs cells slots Q (F0 m (pc + 3) ls (.ref (ad (pMrow 0)) :: rest))) : W p l e R s m args below meth c H locs cells slots Q (F0 m pc ls (.ref (ad (pMod i)) :: rest)) :=
  va_get (D := D) (ci := 8) (C := "ExecutiveDeskModel") (T := T_Mod) (N := 53) B.1 B.2.1 B.2.2.2.2.1 iw_Mod B.2.2.2.1 B.2.2.2.2.2.1 hP (pMod i) (md_w_Mod h) rfl 18 (by decide) (B.2.2.2.2.1 _ hlink) (fun _ q => q) rfl hdg kk
theorem gf_Mod_there (B : ed_B p s m args meth c cc own nL D ca) (hP : va_P D vwCl (md_w ad ca σ) H) (h : i < 1) (hlink : Cond.fieldLink own index "ExecutiveDeskModel" "there" "[Z" ∈ ed_tb) (hdg : decode cc pc = .ok (.getfield index, 3))
    (kk : W p l e R s m args below meth c H locs cells slots Q (F0 m (pc + 3) ls (.ref (ad (pMthere 0)) :: rest))) : W p l e R s m args below meth c H locs cells slots Q (F0 m pc ls (.ref (ad (pMod i)) :: rest)) :=
  va_get (D := D) (ci := 8) (C := "ExecutiveDeskModel") (T := T_Mod) (N := 53) B.1 B.2.1 B.2.2.2.2.1 iw_Mod B.2.2.2.1 B.2.2.2.2.2.1 hP (pMod i) (md_w_Mod h) rfl 19 (by decide) (B.2.2.2.2.1 _ hlink) (fun _ q => q) rfl hdg kk
theorem gf_Mod_isSet (B : ed_B p s m args meth c cc own nL D ca) (hP : va_P D vwCl (md_w ad ca σ) H) (h : i < 1) (hlink : Cond.fieldLink own index "ExecutiveDeskModel" "isSet" "[Z" ∈ ed_tb) (hdg : decode cc pc = .ok (.getfield index, 3))
    (kk : W p l e R s m args below meth c H locs cells slots Q (F0 m (pc + 3) ls (.ref (ad (pMisSet 0)) :: rest))) : W p l e R s m args below meth c H locs cells slots Q (F0 m pc ls (.ref (ad (pMod i)) :: rest)) :=
  va_get (D := D) (ci := 8) (C := "ExecutiveDeskModel") (T := T_Mod) (N := 53) B.1 B.2.1 B.2.2.2.2.1 iw_Mod B.2.2.2.1 B.2.2.2.2.2.1 hP (pMod i) (md_w_Mod h) rfl 20 (by decide) (B.2.2.2.2.1 _ hlink) (fun _ q => q) rfl hdg kk
theorem gf_Mod_abandoned (B : ed_B p s m args meth c cc own nL D ca) (hP : va_P D vwCl (md_w ad ca σ) H) (h : i < 1) (hlink : Cond.fieldLink own index "ExecutiveDeskModel" "abandoned" "[Z" ∈ ed_tb) (hdg : decode cc pc = .ok (.getfield index, 3))
    (kk : W p l e R s m args below meth c H locs cells slots Q (F0 m (pc + 3) ls (.ref (ad (pMabandoned 0)) :: rest))) : W p l e R s m args below meth c H locs cells slots Q (F0 m pc ls (.ref (ad (pMod i)) :: rest)) :=
  va_get (D := D) (ci := 8) (C := "ExecutiveDeskModel") (T := T_Mod) (N := 53) B.1 B.2.1 B.2.2.2.2.1 iw_Mod B.2.2.2.1 B.2.2.2.2.2.1 hP (pMod i) (md_w_Mod h) rfl 21 (by decide) (B.2.2.2.2.1 _ hlink) (fun _ q => q) rfl hdg kk
theorem gf_Mod_type (B : ed_B p s m args meth c cc own nL D ca) (hP : va_P D vwCl (md_w ad ca σ) H) (h : i < 1) (hlink : Cond.fieldLink own index "ExecutiveDeskModel" "type" "[I" ∈ ed_tb) (hdg : decode cc pc = .ok (.getfield index, 3))
    (kk : W p l e R s m args below meth c H locs cells slots Q (F0 m (pc + 3) ls (.ref (ad (pMtype 0)) :: rest))) : W p l e R s m args below meth c H locs cells slots Q (F0 m pc ls (.ref (ad (pMod i)) :: rest)) :=
  va_get (D := D) (ci := 8) (C := "ExecutiveDeskModel") (T := T_Mod) (N := 53) B.1 B.2.1 B.2.2.2.2.1 iw_Mod B.2.2.2.1 B.2.2.2.2.2.1 hP (pMod i) (md_w_Mod h) rfl 22 (by decide) (B.2.2.2.2.1 _ hlink) (fun _ q => q) rfl hdg kk
theorem gf_Mod_name (B : ed_B p s m args meth c cc own nL D ca) (hP : va_P D vwCl (md_w ad ca σ) H) (h : i < 1) (hlink : Cond.fieldLink own index "ExecutiveDeskModel" "name" "[I" ∈ ed_tb) (hdg : decode cc pc = .ok (.getfield index, 3))
    (kk : W p l e R s m args below meth c H locs cells slots Q (F0 m (pc + 3) ls (.ref (ad (pMname 0)) :: rest))) : W p l e R s m args below meth c H locs cells slots Q (F0 m pc ls (.ref (ad (pMod i)) :: rest)) :=
  va_get (D := D) (ci := 8) (C := "ExecutiveDeskModel") (T := T_Mod) (N := 53) B.1 B.2.1 B.2.2.2.2.1 iw_Mod B.2.2.2.1 B.2.2.2.2.2.1 hP (pMod i) (md_w_Mod h) rfl 23 (by decide) (B.2.2.2.2.1 _ hlink) (fun _ q => q) rfl hdg kk
theorem gf_Mod_count (B : ed_B p s m args meth c cc own nL D ca) (hP : va_P D vwCl (md_w ad ca σ) H) (h : i < 1) (hlink : Cond.fieldLink own index "ExecutiveDeskModel" "count" "[I" ∈ ed_tb) (hdg : decode cc pc = .ok (.getfield index, 3))
    (kk : W p l e R s m args below meth c H locs cells slots Q (F0 m (pc + 3) ls (.ref (ad (pMcount 0)) :: rest))) : W p l e R s m args below meth c H locs cells slots Q (F0 m pc ls (.ref (ad (pMod i)) :: rest)) :=
  va_get (D := D) (ci := 8) (C := "ExecutiveDeskModel") (T := T_Mod) (N := 53) B.1 B.2.1 B.2.2.2.2.1 iw_Mod B.2.2.2.1 B.2.2.2.2.2.1 hP (pMod i) (md_w_Mod h) rfl 24 (by decide) (B.2.2.2.2.1 _ hlink) (fun _ q => q) rfl hdg kk
theorem gf_Mod_owner (B : ed_B p s m args meth c cc own nL D ca) (hP : va_P D vwCl (md_w ad ca σ) H) (h : i < 1) (hlink : Cond.fieldLink own index "ExecutiveDeskModel" "owner" "[I" ∈ ed_tb) (hdg : decode cc pc = .ok (.getfield index, 3))
    (kk : W p l e R s m args below meth c H locs cells slots Q (F0 m (pc + 3) ls (.ref (ad (pMowner 0)) :: rest))) : W p l e R s m args below meth c H locs cells slots Q (F0 m pc ls (.ref (ad (pMod i)) :: rest)) :=
  va_get (D := D) (ci := 8) (C := "ExecutiveDeskModel") (T := T_Mod) (N := 53) B.1 B.2.1 B.2.2.2.2.1 iw_Mod B.2.2.2.1 B.2.2.2.2.2.1 hP (pMod i) (md_w_Mod h) rfl 25 (by decide) (B.2.2.2.2.1 _ hlink) (fun _ q => q) rfl hdg kk
theorem gf_Mod_time (B : ed_B p s m args meth c cc own nL D ca) (hP : va_P D vwCl (md_w ad ca σ) H) (h : i < 1) (hlink : Cond.fieldLink own index "ExecutiveDeskModel" "time" "[I" ∈ ed_tb) (hdg : decode cc pc = .ok (.getfield index, 3))
    (kk : W p l e R s m args below meth c H locs cells slots Q (F0 m (pc + 3) ls (.ref (ad (pMtime 0)) :: rest))) : W p l e R s m args below meth c H locs cells slots Q (F0 m pc ls (.ref (ad (pMod i)) :: rest)) :=
  va_get (D := D) (ci := 8) (C := "ExecutiveDeskModel") (T := T_Mod) (N := 53) B.1 B.2.1 B.2.2.2.2.1 iw_Mod B.2.2.2.1 B.2.2.2.2.2.1 hP (pMod i) (md_w_Mod h) rfl 26 (by decide) (B.2.2.2.2.1 _ hlink) (fun _ q => q) rfl hdg kk
theorem gf_Mod_rules (B : ed_B p s m args meth c cc own nL D ca) (hP : va_P D vwCl (md_w ad ca σ) H) (h : i < 1) (hlink : Cond.fieldLink own index "ExecutiveDeskModel" "rules" "[I" ∈ ed_tb) (hdg : decode cc pc = .ok (.getfield index, 3))
    (kk : W p l e R s m args below meth c H locs cells slots Q (F0 m (pc + 3) ls (.ref (ad (pMrules 0)) :: rest))) : W p l e R s m args below meth c H locs cells slots Q (F0 m pc ls (.ref (ad (pMod i)) :: rest)) :=
  va_get (D := D) (ci := 8) (C := "ExecutiveDeskModel") (T := T_Mod) (N := 53) B.1 B.2.1 B.2.2.2.2.1 iw_Mod B.2.2.2.1 B.2.2.2.2.2.1 hP (pMod i) (md_w_Mod h) rfl 27 (by decide) (B.2.2.2.2.1 _ hlink) (fun _ q => q) rfl hdg kk
theorem gf_Mod_ruleKind (B : ed_B p s m args meth c cc own nL D ca) (hP : va_P D vwCl (md_w ad ca σ) H) (h : i < 1) (hlink : Cond.fieldLink own index "ExecutiveDeskModel" "ruleKind" "[I" ∈ ed_tb) (hdg : decode cc pc = .ok (.getfield index, 3))
    (kk : W p l e R s m args below meth c H locs cells slots Q (F0 m (pc + 3) ls (.ref (ad (pMruleKind 0)) :: rest))) : W p l e R s m args below meth c H locs cells slots Q (F0 m pc ls (.ref (ad (pMod i)) :: rest)) :=
  va_get (D := D) (ci := 8) (C := "ExecutiveDeskModel") (T := T_Mod) (N := 53) B.1 B.2.1 B.2.2.2.2.1 iw_Mod B.2.2.2.1 B.2.2.2.2.2.1 hP (pMod i) (md_w_Mod h) rfl 28 (by decide) (B.2.2.2.2.1 _ hlink) (fun _ q => q) rfl hdg kk
theorem gf_Mod_ruleGroup (B : ed_B p s m args meth c cc own nL D ca) (hP : va_P D vwCl (md_w ad ca σ) H) (h : i < 1) (hlink : Cond.fieldLink own index "ExecutiveDeskModel" "ruleGroup" "[I" ∈ ed_tb) (hdg : decode cc pc = .ok (.getfield index, 3))
    (kk : W p l e R s m args below meth c H locs cells slots Q (F0 m (pc + 3) ls (.ref (ad (pMruleGroup 0)) :: rest))) : W p l e R s m args below meth c H locs cells slots Q (F0 m pc ls (.ref (ad (pMod i)) :: rest)) :=
  va_get (D := D) (ci := 8) (C := "ExecutiveDeskModel") (T := T_Mod) (N := 53) B.1 B.2.1 B.2.2.2.2.1 iw_Mod B.2.2.2.1 B.2.2.2.2.2.1 hP (pMod i) (md_w_Mod h) rfl 29 (by decide) (B.2.2.2.2.1 _ hlink) (fun _ q => q) rfl hdg kk
theorem gf_Mod_ruleRights (B : ed_B p s m args meth c cc own nL D ca) (hP : va_P D vwCl (md_w ad ca σ) H) (h : i < 1) (hlink : Cond.fieldLink own index "ExecutiveDeskModel" "ruleRights" "[I" ∈ ed_tb) (hdg : decode cc pc = .ok (.getfield index, 3))
    (kk : W p l e R s m args below meth c H locs cells slots Q (F0 m (pc + 3) ls (.ref (ad (pMruleRights 0)) :: rest))) : W p l e R s m args below meth c H locs cells slots Q (F0 m pc ls (.ref (ad (pMod i)) :: rest)) :=
  va_get (D := D) (ci := 8) (C := "ExecutiveDeskModel") (T := T_Mod) (N := 53) B.1 B.2.1 B.2.2.2.2.1 iw_Mod B.2.2.2.1 B.2.2.2.2.2.1 hP (pMod i) (md_w_Mod h) rfl 30 (by decide) (B.2.2.2.2.1 _ hlink) (fun _ q => q) rfl hdg kk
theorem gf_Mod_tState (B : ed_B p s m args meth c cc own nL D ca) (hP : va_P D vwCl (md_w ad ca σ) H) (h : i < 1) (hlink : Cond.fieldLink own index "ExecutiveDeskModel" "tState" "[I" ∈ ed_tb) (hdg : decode cc pc = .ok (.getfield index, 3))
    (kk : W p l e R s m args below meth c H locs cells slots Q (F0 m (pc + 3) ls (.ref (ad (pMtState 0)) :: rest))) : W p l e R s m args below meth c H locs cells slots Q (F0 m pc ls (.ref (ad (pMod i)) :: rest)) :=
  va_get (D := D) (ci := 8) (C := "ExecutiveDeskModel") (T := T_Mod) (N := 53) B.1 B.2.1 B.2.2.2.2.1 iw_Mod B.2.2.2.1 B.2.2.2.2.2.1 hP (pMod i) (md_w_Mod h) rfl 31 (by decide) (B.2.2.2.2.1 _ hlink) (fun _ q => q) rfl hdg kk
theorem gf_Mod_tAmount (B : ed_B p s m args meth c cc own nL D ca) (hP : va_P D vwCl (md_w ad ca σ) H) (h : i < 1) (hlink : Cond.fieldLink own index "ExecutiveDeskModel" "tAmount" "[I" ∈ ed_tb) (hdg : decode cc pc = .ok (.getfield index, 3))
    (kk : W p l e R s m args below meth c H locs cells slots Q (F0 m (pc + 3) ls (.ref (ad (pMtAmount 0)) :: rest))) : W p l e R s m args below meth c H locs cells slots Q (F0 m pc ls (.ref (ad (pMod i)) :: rest)) :=
  va_get (D := D) (ci := 8) (C := "ExecutiveDeskModel") (T := T_Mod) (N := 53) B.1 B.2.1 B.2.2.2.2.1 iw_Mod B.2.2.2.1 B.2.2.2.2.2.1 hP (pMod i) (md_w_Mod h) rfl 32 (by decide) (B.2.2.2.2.1 _ hlink) (fun _ q => q) rfl hdg kk
theorem gf_Mod_tThread (B : ed_B p s m args meth c cc own nL D ca) (hP : va_P D vwCl (md_w ad ca σ) H) (h : i < 1) (hlink : Cond.fieldLink own index "ExecutiveDeskModel" "tThread" "[I" ∈ ed_tb) (hdg : decode cc pc = .ok (.getfield index, 3))
    (kk : W p l e R s m args below meth c H locs cells slots Q (F0 m (pc + 3) ls (.ref (ad (pMtThread 0)) :: rest))) : W p l e R s m args below meth c H locs cells slots Q (F0 m pc ls (.ref (ad (pMod i)) :: rest)) :=
  va_get (D := D) (ci := 8) (C := "ExecutiveDeskModel") (T := T_Mod) (N := 53) B.1 B.2.1 B.2.2.2.2.1 iw_Mod B.2.2.2.1 B.2.2.2.2.2.1 hP (pMod i) (md_w_Mod h) rfl 33 (by decide) (B.2.2.2.2.1 _ hlink) (fun _ q => q) rfl hdg kk
theorem gf_Mod_tDevice (B : ed_B p s m args meth c cc own nL D ca) (hP : va_P D vwCl (md_w ad ca σ) H) (h : i < 1) (hlink : Cond.fieldLink own index "ExecutiveDeskModel" "tDevice" "[I" ∈ ed_tb) (hdg : decode cc pc = .ok (.getfield index, 3))
    (kk : W p l e R s m args below meth c H locs cells slots Q (F0 m (pc + 3) ls (.ref (ad (pMtDevice 0)) :: rest))) : W p l e R s m args below meth c H locs cells slots Q (F0 m pc ls (.ref (ad (pMod i)) :: rest)) :=
  va_get (D := D) (ci := 8) (C := "ExecutiveDeskModel") (T := T_Mod) (N := 53) B.1 B.2.1 B.2.2.2.2.1 iw_Mod B.2.2.2.1 B.2.2.2.2.2.1 hP (pMod i) (md_w_Mod h) rfl 34 (by decide) (B.2.2.2.2.1 _ hlink) (fun _ q => q) rfl hdg kk
theorem gf_Mod_tLength (B : ed_B p s m args meth c cc own nL D ca) (hP : va_P D vwCl (md_w ad ca σ) H) (h : i < 1) (hlink : Cond.fieldLink own index "ExecutiveDeskModel" "tLength" "[I" ∈ ed_tb) (hdg : decode cc pc = .ok (.getfield index, 3))
    (kk : W p l e R s m args below meth c H locs cells slots Q (F0 m (pc + 3) ls (.ref (ad (pMtLength 0)) :: rest))) : W p l e R s m args below meth c H locs cells slots Q (F0 m pc ls (.ref (ad (pMod i)) :: rest)) :=
  va_get (D := D) (ci := 8) (C := "ExecutiveDeskModel") (T := T_Mod) (N := 53) B.1 B.2.1 B.2.2.2.2.1 iw_Mod B.2.2.2.1 B.2.2.2.2.2.1 hP (pMod i) (md_w_Mod h) rfl 35 (by decide) (B.2.2.2.2.1 _ hlink) (fun _ q => q) rfl hdg kk
theorem gf_Mod_tSets (B : ed_B p s m args meth c cc own nL D ca) (hP : va_P D vwCl (md_w ad ca σ) H) (h : i < 1) (hlink : Cond.fieldLink own index "ExecutiveDeskModel" "tSets" "[I" ∈ ed_tb) (hdg : decode cc pc = .ok (.getfield index, 3))
    (kk : W p l e R s m args below meth c H locs cells slots Q (F0 m (pc + 3) ls (.ref (ad (pMtSets 0)) :: rest))) : W p l e R s m args below meth c H locs cells slots Q (F0 m pc ls (.ref (ad (pMod i)) :: rest)) :=
  va_get (D := D) (ci := 8) (C := "ExecutiveDeskModel") (T := T_Mod) (N := 53) B.1 B.2.1 B.2.2.2.2.1 iw_Mod B.2.2.2.1 B.2.2.2.2.2.1 hP (pMod i) (md_w_Mod h) rfl 36 (by decide) (B.2.2.2.2.1 _ hlink) (fun _ q => q) rfl hdg kk
theorem gf_Mod_tOrder (B : ed_B p s m args meth c cc own nL D ca) (hP : va_P D vwCl (md_w ad ca σ) H) (h : i < 1) (hlink : Cond.fieldLink own index "ExecutiveDeskModel" "tOrder" "[I" ∈ ed_tb) (hdg : decode cc pc = .ok (.getfield index, 3))
    (kk : W p l e R s m args below meth c H locs cells slots Q (F0 m (pc + 3) ls (.ref (ad (pMtOrder 0)) :: rest))) : W p l e R s m args below meth c H locs cells slots Q (F0 m pc ls (.ref (ad (pMod i)) :: rest)) :=
  va_get (D := D) (ci := 8) (C := "ExecutiveDeskModel") (T := T_Mod) (N := 53) B.1 B.2.1 B.2.2.2.2.1 iw_Mod B.2.2.2.1 B.2.2.2.2.2.1 hP (pMod i) (md_w_Mod h) rfl 37 (by decide) (B.2.2.2.2.1 _ hlink) (fun _ q => q) rfl hdg kk
theorem gf_Mod_tCancel (B : ed_B p s m args meth c cc own nL D ca) (hP : va_P D vwCl (md_w ad ca σ) H) (h : i < 1) (hlink : Cond.fieldLink own index "ExecutiveDeskModel" "tCancel" "[Z" ∈ ed_tb) (hdg : decode cc pc = .ok (.getfield index, 3))
    (kk : W p l e R s m args below meth c H locs cells slots Q (F0 m (pc + 3) ls (.ref (ad (pMtCancel 0)) :: rest))) : W p l e R s m args below meth c H locs cells slots Q (F0 m pc ls (.ref (ad (pMod i)) :: rest)) :=
  va_get (D := D) (ci := 8) (C := "ExecutiveDeskModel") (T := T_Mod) (N := 53) B.1 B.2.1 B.2.2.2.2.1 iw_Mod B.2.2.2.1 B.2.2.2.2.2.1 hP (pMod i) (md_w_Mod h) rfl 38 (by decide) (B.2.2.2.2.1 _ hlink) (fun _ q => q) rfl hdg kk
theorem gf_Mod_tAgain (B : ed_B p s m args meth c cc own nL D ca) (hP : va_P D vwCl (md_w ad ca σ) H) (h : i < 1) (hlink : Cond.fieldLink own index "ExecutiveDeskModel" "tAgain" "[Z" ∈ ed_tb) (hdg : decode cc pc = .ok (.getfield index, 3))
    (kk : W p l e R s m args below meth c H locs cells slots Q (F0 m (pc + 3) ls (.ref (ad (pMtAgain 0)) :: rest))) : W p l e R s m args below meth c H locs cells slots Q (F0 m pc ls (.ref (ad (pMod i)) :: rest)) :=
  va_get (D := D) (ci := 8) (C := "ExecutiveDeskModel") (T := T_Mod) (N := 53) B.1 B.2.1 B.2.2.2.2.1 iw_Mod B.2.2.2.1 B.2.2.2.2.2.1 hP (pMod i) (md_w_Mod h) rfl 39 (by decide) (B.2.2.2.2.1 _ hlink) (fun _ q => q) rfl hdg kk
theorem gf_Mod_waiting (B : ed_B p s m args meth c cc own nL D ca) (hP : va_P D vwCl (md_w ad ca σ) H) (h : i < 1) (hlink : Cond.fieldLink own index "ExecutiveDeskModel" "waiting" "[I" ∈ ed_tb) (hdg : decode cc pc = .ok (.getfield index, 3))
    (kk : W p l e R s m args below meth c H locs cells slots Q (F0 m (pc + 3) ls (.ref (ad (pMwaiting 0)) :: rest))) : W p l e R s m args below meth c H locs cells slots Q (F0 m pc ls (.ref (ad (pMod i)) :: rest)) :=
  va_get (D := D) (ci := 8) (C := "ExecutiveDeskModel") (T := T_Mod) (N := 53) B.1 B.2.1 B.2.2.2.2.1 iw_Mod B.2.2.2.1 B.2.2.2.2.2.1 hP (pMod i) (md_w_Mod h) rfl 40 (by decide) (B.2.2.2.2.1 _ hlink) (fun _ q => q) rfl hdg kk
theorem gf_Mod_waitingWell (B : ed_B p s m args meth c cc own nL D ca) (hP : va_P D vwCl (md_w ad ca σ) H) (h : i < 1) (hlink : Cond.fieldLink own index "ExecutiveDeskModel" "waitingWell" "[Z" ∈ ed_tb) (hdg : decode cc pc = .ok (.getfield index, 3))
    (kk : W p l e R s m args below meth c H locs cells slots Q (F0 m (pc + 3) ls (.ref (ad (pMwaitingWell 0)) :: rest))) : W p l e R s m args below meth c H locs cells slots Q (F0 m pc ls (.ref (ad (pMod i)) :: rest)) :=
  va_get (D := D) (ci := 8) (C := "ExecutiveDeskModel") (T := T_Mod) (N := 53) B.1 B.2.1 B.2.2.2.2.1 iw_Mod B.2.2.2.1 B.2.2.2.2.2.1 hP (pMod i) (md_w_Mod h) rfl 41 (by decide) (B.2.2.2.2.1 _ hlink) (fun _ q => q) rfl hdg kk
theorem gf_Mod_processes (B : ed_B p s m args meth c cc own nL D ca) (hP : va_P D vwCl (md_w ad ca σ) H) (h : i < 1) (hlink : Cond.fieldLink own index "ExecutiveDeskModel" "processes" "I" ∈ ed_tb) (hdg : decode cc pc = .ok (.getfield index, 3))
    (kk : W p l e R s m args below meth c H locs cells slots Q (F0 m (pc + 3) ls (.int (σ 42 i 0) :: rest))) : W p l e R s m args below meth c H locs cells slots Q (F0 m pc ls (.ref (ad (pMod i)) :: rest)) :=
  va_get (D := D) (ci := 8) (C := "ExecutiveDeskModel") (T := T_Mod) (N := 53) B.1 B.2.1 B.2.2.2.2.1 iw_Mod B.2.2.2.1 B.2.2.2.2.2.1 hP (pMod i) (md_w_Mod h) rfl 42 (by decide) (B.2.2.2.2.1 _ hlink) (fun _ q => q) rfl hdg kk
theorem pf_Mod_processes (B : ed_B p s m args meth c cc own nL D ca) (hP : va_P D vwCl (md_w ad ca σ) H) (hD : va_D A (md_w ad ca σ)) (hS : va_S A s.heap H locs) (h : i < 1) (eq : σ1 = ed_st σ 42 i 0 v) (hlink : Cond.fieldLink own index "ExecutiveDeskModel" "processes" "I" ∈ ed_tb) (hdg : decode cc pc = .ok (.putfield index, 3))
    (kk : ∀ (H1 : Heap) (locs1 : List Loc), va_P D vwCl (md_w ad ca σ1) H1 → va_D A (md_w ad ca σ1) → va_S A s.heap H1 locs1 → W p l e R s m args below meth c H1 locs1 cells slots Q (F0 m (pc + 3) ls rest)) : W p l e R s m args below meth c H locs cells slots Q (F0 m pc ls (.int v :: .ref (ad (pMod i)) :: rest)) := by
  subst eq
  refine va_put (D := D) (ci := 8) (C := "ExecutiveDeskModel") (T := T_Mod) (N := 53) (v := .int v) (ty := .int) B.1 B.2.1 B.2.2.2.2.1 iw_Mod ty_Mod tyok_Mod nm_Mod B.2.2.2.1 B.2.2.2.2.2.1 hP hD hS (pMod i) (md_w_Mod h) rfl 42 (by decide) (B.2.2.2.2.1 _ hlink) (fun _ q => q) rfl (by decide +kernel) rfl rfl (Nat.le_of_ble_eq_true rfl) hdg (fun H1 locs1 hP1 hD1 hS1 => ?_)
  have q0 := md_w_set (ad := ad) (ca := ca) (σ := σ) (σ2 := ed_st σ 42 i 0 v) (md_lt_Mod h) (md_ct_Mod h) (fun z hl hz => md_ct_st hl hz)
  have q1 : cMod ad ca (ed_st σ 42 i 0 v) i = .inr (8, List.set [.ref (ad (pMgroups 0)), .ref (ad (pMalive 0)), .ref (ad (pMhad 0)), .ref (ad (pMhandleObject 0)), .ref (ad (pMhandleRights 0)), .ref (ad (pMhome 0)), .ref (ad (pMpriority 0)), .ref (ad (pMstate 0)), .ref (ad (pMresult 0)), .ref (ad (pMcalls 0)), .ref (ad (pMdelivered 0)), .ref (ad (pMlatest 0)), .ref (ad (pMused 0)), .ref (ad (pMdue 0)), .ref (ad (pMhow 0)), .ref (ad (pMbegan 0)), .ref (ad (pMstands 0)), .ref (ad (pMplace 0)), .ref (ad (pMrow 0)), .ref (ad (pMthere 0)), .ref (ad (pMisSet 0)), .ref (ad (pMabandoned 0)), .ref (ad (pMtype 0)), .ref (ad (pMname 0)), .ref (ad (pMcount 0)), .ref (ad (pMowner 0)), .ref (ad (pMtime 0)), .ref (ad (pMrules 0)), .ref (ad (pMruleKind 0)), .ref (ad (pMruleGroup 0)), .ref (ad (pMruleRights 0)), .ref (ad (pMtState 0)), .ref (ad (pMtAmount 0)), .ref (ad (pMtThread 0)), .ref (ad (pMtDevice 0)), .ref (ad (pMtLength 0)), .ref (ad (pMtSets 0)), .ref (ad (pMtOrder 0)), .ref (ad (pMtCancel 0)), .ref (ad (pMtAgain 0)), .ref (ad (pMwaiting 0)), .ref (ad (pMwaitingWell 0)), .int (σ 42 i 0), .int (σ 43 i 0), .int (σ 44 i 0), .int (σ 45 i 0), .int (σ 46 i 0), .int (σ 47 i 0), .int (σ 48 i 0), .int (σ 49 i 0), .int (σ 50 i 0), .int (σ 51 i 0), .int (σ 52 i 0)] 42 (.int v)) := by simp [cMod, ed_st]
  rw [q1] at q0
  rw [q0] at hP1 hD1
  exact kk H1 locs1 hP1 hD1 hS1
theorem gf_Mod_threads (B : ed_B p s m args meth c cc own nL D ca) (hP : va_P D vwCl (md_w ad ca σ) H) (h : i < 1) (hlink : Cond.fieldLink own index "ExecutiveDeskModel" "threads" "I" ∈ ed_tb) (hdg : decode cc pc = .ok (.getfield index, 3))
    (kk : W p l e R s m args below meth c H locs cells slots Q (F0 m (pc + 3) ls (.int (σ 43 i 0) :: rest))) : W p l e R s m args below meth c H locs cells slots Q (F0 m pc ls (.ref (ad (pMod i)) :: rest)) :=
  va_get (D := D) (ci := 8) (C := "ExecutiveDeskModel") (T := T_Mod) (N := 53) B.1 B.2.1 B.2.2.2.2.1 iw_Mod B.2.2.2.1 B.2.2.2.2.2.1 hP (pMod i) (md_w_Mod h) rfl 43 (by decide) (B.2.2.2.2.1 _ hlink) (fun _ q => q) rfl hdg kk
theorem pf_Mod_threads (B : ed_B p s m args meth c cc own nL D ca) (hP : va_P D vwCl (md_w ad ca σ) H) (hD : va_D A (md_w ad ca σ)) (hS : va_S A s.heap H locs) (h : i < 1) (eq : σ1 = ed_st σ 43 i 0 v) (hlink : Cond.fieldLink own index "ExecutiveDeskModel" "threads" "I" ∈ ed_tb) (hdg : decode cc pc = .ok (.putfield index, 3))
    (kk : ∀ (H1 : Heap) (locs1 : List Loc), va_P D vwCl (md_w ad ca σ1) H1 → va_D A (md_w ad ca σ1) → va_S A s.heap H1 locs1 → W p l e R s m args below meth c H1 locs1 cells slots Q (F0 m (pc + 3) ls rest)) : W p l e R s m args below meth c H locs cells slots Q (F0 m pc ls (.int v :: .ref (ad (pMod i)) :: rest)) := by
  subst eq
  refine va_put (D := D) (ci := 8) (C := "ExecutiveDeskModel") (T := T_Mod) (N := 53) (v := .int v) (ty := .int) B.1 B.2.1 B.2.2.2.2.1 iw_Mod ty_Mod tyok_Mod nm_Mod B.2.2.2.1 B.2.2.2.2.2.1 hP hD hS (pMod i) (md_w_Mod h) rfl 43 (by decide) (B.2.2.2.2.1 _ hlink) (fun _ q => q) rfl (by decide +kernel) rfl rfl (Nat.le_of_ble_eq_true rfl) hdg (fun H1 locs1 hP1 hD1 hS1 => ?_)
  have q0 := md_w_set (ad := ad) (ca := ca) (σ := σ) (σ2 := ed_st σ 43 i 0 v) (md_lt_Mod h) (md_ct_Mod h) (fun z hl hz => md_ct_st hl hz)
  have q1 : cMod ad ca (ed_st σ 43 i 0 v) i = .inr (8, List.set [.ref (ad (pMgroups 0)), .ref (ad (pMalive 0)), .ref (ad (pMhad 0)), .ref (ad (pMhandleObject 0)), .ref (ad (pMhandleRights 0)), .ref (ad (pMhome 0)), .ref (ad (pMpriority 0)), .ref (ad (pMstate 0)), .ref (ad (pMresult 0)), .ref (ad (pMcalls 0)), .ref (ad (pMdelivered 0)), .ref (ad (pMlatest 0)), .ref (ad (pMused 0)), .ref (ad (pMdue 0)), .ref (ad (pMhow 0)), .ref (ad (pMbegan 0)), .ref (ad (pMstands 0)), .ref (ad (pMplace 0)), .ref (ad (pMrow 0)), .ref (ad (pMthere 0)), .ref (ad (pMisSet 0)), .ref (ad (pMabandoned 0)), .ref (ad (pMtype 0)), .ref (ad (pMname 0)), .ref (ad (pMcount 0)), .ref (ad (pMowner 0)), .ref (ad (pMtime 0)), .ref (ad (pMrules 0)), .ref (ad (pMruleKind 0)), .ref (ad (pMruleGroup 0)), .ref (ad (pMruleRights 0)), .ref (ad (pMtState 0)), .ref (ad (pMtAmount 0)), .ref (ad (pMtThread 0)), .ref (ad (pMtDevice 0)), .ref (ad (pMtLength 0)), .ref (ad (pMtSets 0)), .ref (ad (pMtOrder 0)), .ref (ad (pMtCancel 0)), .ref (ad (pMtAgain 0)), .ref (ad (pMwaiting 0)), .ref (ad (pMwaitingWell 0)), .int (σ 42 i 0), .int (σ 43 i 0), .int (σ 44 i 0), .int (σ 45 i 0), .int (σ 46 i 0), .int (σ 47 i 0), .int (σ 48 i 0), .int (σ 49 i 0), .int (σ 50 i 0), .int (σ 51 i 0), .int (σ 52 i 0)] 43 (.int v)) := by simp [cMod, ed_st]
  rw [q1] at q0
  rw [q0] at hP1 hD1
  exact kk H1 locs1 hP1 hD1 hS1
theorem gf_Mod_running (B : ed_B p s m args meth c cc own nL D ca) (hP : va_P D vwCl (md_w ad ca σ) H) (h : i < 1) (hlink : Cond.fieldLink own index "ExecutiveDeskModel" "running" "I" ∈ ed_tb) (hdg : decode cc pc = .ok (.getfield index, 3))
    (kk : W p l e R s m args below meth c H locs cells slots Q (F0 m (pc + 3) ls (.int (σ 44 i 0) :: rest))) : W p l e R s m args below meth c H locs cells slots Q (F0 m pc ls (.ref (ad (pMod i)) :: rest)) :=
  va_get (D := D) (ci := 8) (C := "ExecutiveDeskModel") (T := T_Mod) (N := 53) B.1 B.2.1 B.2.2.2.2.1 iw_Mod B.2.2.2.1 B.2.2.2.2.2.1 hP (pMod i) (md_w_Mod h) rfl 44 (by decide) (B.2.2.2.2.1 _ hlink) (fun _ q => q) rfl hdg kk
theorem pf_Mod_running (B : ed_B p s m args meth c cc own nL D ca) (hP : va_P D vwCl (md_w ad ca σ) H) (hD : va_D A (md_w ad ca σ)) (hS : va_S A s.heap H locs) (h : i < 1) (eq : σ1 = ed_st σ 44 i 0 v) (hlink : Cond.fieldLink own index "ExecutiveDeskModel" "running" "I" ∈ ed_tb) (hdg : decode cc pc = .ok (.putfield index, 3))
    (kk : ∀ (H1 : Heap) (locs1 : List Loc), va_P D vwCl (md_w ad ca σ1) H1 → va_D A (md_w ad ca σ1) → va_S A s.heap H1 locs1 → W p l e R s m args below meth c H1 locs1 cells slots Q (F0 m (pc + 3) ls rest)) : W p l e R s m args below meth c H locs cells slots Q (F0 m pc ls (.int v :: .ref (ad (pMod i)) :: rest)) := by
  subst eq
  refine va_put (D := D) (ci := 8) (C := "ExecutiveDeskModel") (T := T_Mod) (N := 53) (v := .int v) (ty := .int) B.1 B.2.1 B.2.2.2.2.1 iw_Mod ty_Mod tyok_Mod nm_Mod B.2.2.2.1 B.2.2.2.2.2.1 hP hD hS (pMod i) (md_w_Mod h) rfl 44 (by decide) (B.2.2.2.2.1 _ hlink) (fun _ q => q) rfl (by decide +kernel) rfl rfl (Nat.le_of_ble_eq_true rfl) hdg (fun H1 locs1 hP1 hD1 hS1 => ?_)
  have q0 := md_w_set (ad := ad) (ca := ca) (σ := σ) (σ2 := ed_st σ 44 i 0 v) (md_lt_Mod h) (md_ct_Mod h) (fun z hl hz => md_ct_st hl hz)
  have q1 : cMod ad ca (ed_st σ 44 i 0 v) i = .inr (8, List.set [.ref (ad (pMgroups 0)), .ref (ad (pMalive 0)), .ref (ad (pMhad 0)), .ref (ad (pMhandleObject 0)), .ref (ad (pMhandleRights 0)), .ref (ad (pMhome 0)), .ref (ad (pMpriority 0)), .ref (ad (pMstate 0)), .ref (ad (pMresult 0)), .ref (ad (pMcalls 0)), .ref (ad (pMdelivered 0)), .ref (ad (pMlatest 0)), .ref (ad (pMused 0)), .ref (ad (pMdue 0)), .ref (ad (pMhow 0)), .ref (ad (pMbegan 0)), .ref (ad (pMstands 0)), .ref (ad (pMplace 0)), .ref (ad (pMrow 0)), .ref (ad (pMthere 0)), .ref (ad (pMisSet 0)), .ref (ad (pMabandoned 0)), .ref (ad (pMtype 0)), .ref (ad (pMname 0)), .ref (ad (pMcount 0)), .ref (ad (pMowner 0)), .ref (ad (pMtime 0)), .ref (ad (pMrules 0)), .ref (ad (pMruleKind 0)), .ref (ad (pMruleGroup 0)), .ref (ad (pMruleRights 0)), .ref (ad (pMtState 0)), .ref (ad (pMtAmount 0)), .ref (ad (pMtThread 0)), .ref (ad (pMtDevice 0)), .ref (ad (pMtLength 0)), .ref (ad (pMtSets 0)), .ref (ad (pMtOrder 0)), .ref (ad (pMtCancel 0)), .ref (ad (pMtAgain 0)), .ref (ad (pMwaiting 0)), .ref (ad (pMwaitingWell 0)), .int (σ 42 i 0), .int (σ 43 i 0), .int (σ 44 i 0), .int (σ 45 i 0), .int (σ 46 i 0), .int (σ 47 i 0), .int (σ 48 i 0), .int (σ 49 i 0), .int (σ 50 i 0), .int (σ 51 i 0), .int (σ 52 i 0)] 44 (.int v)) := by simp [cMod, ed_st]
  rw [q1] at q0
  rw [q0] at hP1 hD1
  exact kk H1 locs1 hP1 hD1 hS1
theorem gf_Mod_last (B : ed_B p s m args meth c cc own nL D ca) (hP : va_P D vwCl (md_w ad ca σ) H) (h : i < 1) (hlink : Cond.fieldLink own index "ExecutiveDeskModel" "last" "I" ∈ ed_tb) (hdg : decode cc pc = .ok (.getfield index, 3))
    (kk : W p l e R s m args below meth c H locs cells slots Q (F0 m (pc + 3) ls (.int (σ 45 i 0) :: rest))) : W p l e R s m args below meth c H locs cells slots Q (F0 m pc ls (.ref (ad (pMod i)) :: rest)) :=
  va_get (D := D) (ci := 8) (C := "ExecutiveDeskModel") (T := T_Mod) (N := 53) B.1 B.2.1 B.2.2.2.2.1 iw_Mod B.2.2.2.1 B.2.2.2.2.2.1 hP (pMod i) (md_w_Mod h) rfl 45 (by decide) (B.2.2.2.2.1 _ hlink) (fun _ q => q) rfl hdg kk
theorem pf_Mod_last (B : ed_B p s m args meth c cc own nL D ca) (hP : va_P D vwCl (md_w ad ca σ) H) (hD : va_D A (md_w ad ca σ)) (hS : va_S A s.heap H locs) (h : i < 1) (eq : σ1 = ed_st σ 45 i 0 v) (hlink : Cond.fieldLink own index "ExecutiveDeskModel" "last" "I" ∈ ed_tb) (hdg : decode cc pc = .ok (.putfield index, 3))
    (kk : ∀ (H1 : Heap) (locs1 : List Loc), va_P D vwCl (md_w ad ca σ1) H1 → va_D A (md_w ad ca σ1) → va_S A s.heap H1 locs1 → W p l e R s m args below meth c H1 locs1 cells slots Q (F0 m (pc + 3) ls rest)) : W p l e R s m args below meth c H locs cells slots Q (F0 m pc ls (.int v :: .ref (ad (pMod i)) :: rest)) := by
  subst eq
  refine va_put (D := D) (ci := 8) (C := "ExecutiveDeskModel") (T := T_Mod) (N := 53) (v := .int v) (ty := .int) B.1 B.2.1 B.2.2.2.2.1 iw_Mod ty_Mod tyok_Mod nm_Mod B.2.2.2.1 B.2.2.2.2.2.1 hP hD hS (pMod i) (md_w_Mod h) rfl 45 (by decide) (B.2.2.2.2.1 _ hlink) (fun _ q => q) rfl (by decide +kernel) rfl rfl (Nat.le_of_ble_eq_true rfl) hdg (fun H1 locs1 hP1 hD1 hS1 => ?_)
  have q0 := md_w_set (ad := ad) (ca := ca) (σ := σ) (σ2 := ed_st σ 45 i 0 v) (md_lt_Mod h) (md_ct_Mod h) (fun z hl hz => md_ct_st hl hz)
  have q1 : cMod ad ca (ed_st σ 45 i 0 v) i = .inr (8, List.set [.ref (ad (pMgroups 0)), .ref (ad (pMalive 0)), .ref (ad (pMhad 0)), .ref (ad (pMhandleObject 0)), .ref (ad (pMhandleRights 0)), .ref (ad (pMhome 0)), .ref (ad (pMpriority 0)), .ref (ad (pMstate 0)), .ref (ad (pMresult 0)), .ref (ad (pMcalls 0)), .ref (ad (pMdelivered 0)), .ref (ad (pMlatest 0)), .ref (ad (pMused 0)), .ref (ad (pMdue 0)), .ref (ad (pMhow 0)), .ref (ad (pMbegan 0)), .ref (ad (pMstands 0)), .ref (ad (pMplace 0)), .ref (ad (pMrow 0)), .ref (ad (pMthere 0)), .ref (ad (pMisSet 0)), .ref (ad (pMabandoned 0)), .ref (ad (pMtype 0)), .ref (ad (pMname 0)), .ref (ad (pMcount 0)), .ref (ad (pMowner 0)), .ref (ad (pMtime 0)), .ref (ad (pMrules 0)), .ref (ad (pMruleKind 0)), .ref (ad (pMruleGroup 0)), .ref (ad (pMruleRights 0)), .ref (ad (pMtState 0)), .ref (ad (pMtAmount 0)), .ref (ad (pMtThread 0)), .ref (ad (pMtDevice 0)), .ref (ad (pMtLength 0)), .ref (ad (pMtSets 0)), .ref (ad (pMtOrder 0)), .ref (ad (pMtCancel 0)), .ref (ad (pMtAgain 0)), .ref (ad (pMwaiting 0)), .ref (ad (pMwaitingWell 0)), .int (σ 42 i 0), .int (σ 43 i 0), .int (σ 44 i 0), .int (σ 45 i 0), .int (σ 46 i 0), .int (σ 47 i 0), .int (σ 48 i 0), .int (σ 49 i 0), .int (σ 50 i 0), .int (σ 51 i 0), .int (σ 52 i 0)] 45 (.int v)) := by simp [cMod, ed_st]
  rw [q1] at q0
  rw [q0] at hP1 hD1
  exact kk H1 locs1 hP1 hD1 hS1
theorem gf_Mod_clock (B : ed_B p s m args meth c cc own nL D ca) (hP : va_P D vwCl (md_w ad ca σ) H) (h : i < 1) (hlink : Cond.fieldLink own index "ExecutiveDeskModel" "clock" "I" ∈ ed_tb) (hdg : decode cc pc = .ok (.getfield index, 3))
    (kk : W p l e R s m args below meth c H locs cells slots Q (F0 m (pc + 3) ls (.int (σ 46 i 0) :: rest))) : W p l e R s m args below meth c H locs cells slots Q (F0 m pc ls (.ref (ad (pMod i)) :: rest)) :=
  va_get (D := D) (ci := 8) (C := "ExecutiveDeskModel") (T := T_Mod) (N := 53) B.1 B.2.1 B.2.2.2.2.1 iw_Mod B.2.2.2.1 B.2.2.2.2.2.1 hP (pMod i) (md_w_Mod h) rfl 46 (by decide) (B.2.2.2.2.1 _ hlink) (fun _ q => q) rfl hdg kk
theorem pf_Mod_clock (B : ed_B p s m args meth c cc own nL D ca) (hP : va_P D vwCl (md_w ad ca σ) H) (hD : va_D A (md_w ad ca σ)) (hS : va_S A s.heap H locs) (h : i < 1) (eq : σ1 = ed_st σ 46 i 0 v) (hlink : Cond.fieldLink own index "ExecutiveDeskModel" "clock" "I" ∈ ed_tb) (hdg : decode cc pc = .ok (.putfield index, 3))
    (kk : ∀ (H1 : Heap) (locs1 : List Loc), va_P D vwCl (md_w ad ca σ1) H1 → va_D A (md_w ad ca σ1) → va_S A s.heap H1 locs1 → W p l e R s m args below meth c H1 locs1 cells slots Q (F0 m (pc + 3) ls rest)) : W p l e R s m args below meth c H locs cells slots Q (F0 m pc ls (.int v :: .ref (ad (pMod i)) :: rest)) := by
  subst eq
  refine va_put (D := D) (ci := 8) (C := "ExecutiveDeskModel") (T := T_Mod) (N := 53) (v := .int v) (ty := .int) B.1 B.2.1 B.2.2.2.2.1 iw_Mod ty_Mod tyok_Mod nm_Mod B.2.2.2.1 B.2.2.2.2.2.1 hP hD hS (pMod i) (md_w_Mod h) rfl 46 (by decide) (B.2.2.2.2.1 _ hlink) (fun _ q => q) rfl (by decide +kernel) rfl rfl (Nat.le_of_ble_eq_true rfl) hdg (fun H1 locs1 hP1 hD1 hS1 => ?_)
  have q0 := md_w_set (ad := ad) (ca := ca) (σ := σ) (σ2 := ed_st σ 46 i 0 v) (md_lt_Mod h) (md_ct_Mod h) (fun z hl hz => md_ct_st hl hz)
  have q1 : cMod ad ca (ed_st σ 46 i 0 v) i = .inr (8, List.set [.ref (ad (pMgroups 0)), .ref (ad (pMalive 0)), .ref (ad (pMhad 0)), .ref (ad (pMhandleObject 0)), .ref (ad (pMhandleRights 0)), .ref (ad (pMhome 0)), .ref (ad (pMpriority 0)), .ref (ad (pMstate 0)), .ref (ad (pMresult 0)), .ref (ad (pMcalls 0)), .ref (ad (pMdelivered 0)), .ref (ad (pMlatest 0)), .ref (ad (pMused 0)), .ref (ad (pMdue 0)), .ref (ad (pMhow 0)), .ref (ad (pMbegan 0)), .ref (ad (pMstands 0)), .ref (ad (pMplace 0)), .ref (ad (pMrow 0)), .ref (ad (pMthere 0)), .ref (ad (pMisSet 0)), .ref (ad (pMabandoned 0)), .ref (ad (pMtype 0)), .ref (ad (pMname 0)), .ref (ad (pMcount 0)), .ref (ad (pMowner 0)), .ref (ad (pMtime 0)), .ref (ad (pMrules 0)), .ref (ad (pMruleKind 0)), .ref (ad (pMruleGroup 0)), .ref (ad (pMruleRights 0)), .ref (ad (pMtState 0)), .ref (ad (pMtAmount 0)), .ref (ad (pMtThread 0)), .ref (ad (pMtDevice 0)), .ref (ad (pMtLength 0)), .ref (ad (pMtSets 0)), .ref (ad (pMtOrder 0)), .ref (ad (pMtCancel 0)), .ref (ad (pMtAgain 0)), .ref (ad (pMwaiting 0)), .ref (ad (pMwaitingWell 0)), .int (σ 42 i 0), .int (σ 43 i 0), .int (σ 44 i 0), .int (σ 45 i 0), .int (σ 46 i 0), .int (σ 47 i 0), .int (σ 48 i 0), .int (σ 49 i 0), .int (σ 50 i 0), .int (σ 51 i 0), .int (σ 52 i 0)] 46 (.int v)) := by simp [cMod, ed_st]
  rw [q1] at q0
  rw [q0] at hP1 hD1
  exact kk H1 locs1 hP1 hD1 hS1
theorem gf_Mod_level (B : ed_B p s m args meth c cc own nL D ca) (hP : va_P D vwCl (md_w ad ca σ) H) (h : i < 1) (hlink : Cond.fieldLink own index "ExecutiveDeskModel" "level" "I" ∈ ed_tb) (hdg : decode cc pc = .ok (.getfield index, 3))
    (kk : W p l e R s m args below meth c H locs cells slots Q (F0 m (pc + 3) ls (.int (σ 47 i 0) :: rest))) : W p l e R s m args below meth c H locs cells slots Q (F0 m pc ls (.ref (ad (pMod i)) :: rest)) :=
  va_get (D := D) (ci := 8) (C := "ExecutiveDeskModel") (T := T_Mod) (N := 53) B.1 B.2.1 B.2.2.2.2.1 iw_Mod B.2.2.2.1 B.2.2.2.2.2.1 hP (pMod i) (md_w_Mod h) rfl 47 (by decide) (B.2.2.2.2.1 _ hlink) (fun _ q => q) rfl hdg kk
theorem pf_Mod_level (B : ed_B p s m args meth c cc own nL D ca) (hP : va_P D vwCl (md_w ad ca σ) H) (hD : va_D A (md_w ad ca σ)) (hS : va_S A s.heap H locs) (h : i < 1) (eq : σ1 = ed_st σ 47 i 0 v) (hlink : Cond.fieldLink own index "ExecutiveDeskModel" "level" "I" ∈ ed_tb) (hdg : decode cc pc = .ok (.putfield index, 3))
    (kk : ∀ (H1 : Heap) (locs1 : List Loc), va_P D vwCl (md_w ad ca σ1) H1 → va_D A (md_w ad ca σ1) → va_S A s.heap H1 locs1 → W p l e R s m args below meth c H1 locs1 cells slots Q (F0 m (pc + 3) ls rest)) : W p l e R s m args below meth c H locs cells slots Q (F0 m pc ls (.int v :: .ref (ad (pMod i)) :: rest)) := by
  subst eq
  refine va_put (D := D) (ci := 8) (C := "ExecutiveDeskModel") (T := T_Mod) (N := 53) (v := .int v) (ty := .int) B.1 B.2.1 B.2.2.2.2.1 iw_Mod ty_Mod tyok_Mod nm_Mod B.2.2.2.1 B.2.2.2.2.2.1 hP hD hS (pMod i) (md_w_Mod h) rfl 47 (by decide) (B.2.2.2.2.1 _ hlink) (fun _ q => q) rfl (by decide +kernel) rfl rfl (Nat.le_of_ble_eq_true rfl) hdg (fun H1 locs1 hP1 hD1 hS1 => ?_)
  have q0 := md_w_set (ad := ad) (ca := ca) (σ := σ) (σ2 := ed_st σ 47 i 0 v) (md_lt_Mod h) (md_ct_Mod h) (fun z hl hz => md_ct_st hl hz)
  have q1 : cMod ad ca (ed_st σ 47 i 0 v) i = .inr (8, List.set [.ref (ad (pMgroups 0)), .ref (ad (pMalive 0)), .ref (ad (pMhad 0)), .ref (ad (pMhandleObject 0)), .ref (ad (pMhandleRights 0)), .ref (ad (pMhome 0)), .ref (ad (pMpriority 0)), .ref (ad (pMstate 0)), .ref (ad (pMresult 0)), .ref (ad (pMcalls 0)), .ref (ad (pMdelivered 0)), .ref (ad (pMlatest 0)), .ref (ad (pMused 0)), .ref (ad (pMdue 0)), .ref (ad (pMhow 0)), .ref (ad (pMbegan 0)), .ref (ad (pMstands 0)), .ref (ad (pMplace 0)), .ref (ad (pMrow 0)), .ref (ad (pMthere 0)), .ref (ad (pMisSet 0)), .ref (ad (pMabandoned 0)), .ref (ad (pMtype 0)), .ref (ad (pMname 0)), .ref (ad (pMcount 0)), .ref (ad (pMowner 0)), .ref (ad (pMtime 0)), .ref (ad (pMrules 0)), .ref (ad (pMruleKind 0)), .ref (ad (pMruleGroup 0)), .ref (ad (pMruleRights 0)), .ref (ad (pMtState 0)), .ref (ad (pMtAmount 0)), .ref (ad (pMtThread 0)), .ref (ad (pMtDevice 0)), .ref (ad (pMtLength 0)), .ref (ad (pMtSets 0)), .ref (ad (pMtOrder 0)), .ref (ad (pMtCancel 0)), .ref (ad (pMtAgain 0)), .ref (ad (pMwaiting 0)), .ref (ad (pMwaitingWell 0)), .int (σ 42 i 0), .int (σ 43 i 0), .int (σ 44 i 0), .int (σ 45 i 0), .int (σ 46 i 0), .int (σ 47 i 0), .int (σ 48 i 0), .int (σ 49 i 0), .int (σ 50 i 0), .int (σ 51 i 0), .int (σ 52 i 0)] 47 (.int v)) := by simp [cMod, ed_st]
  rw [q1] at q0
  rw [q0] at hP1 hD1
  exact kk H1 locs1 hP1 hD1 hS1
theorem gf_Mod_interrupts (B : ed_B p s m args meth c cc own nL D ca) (hP : va_P D vwCl (md_w ad ca σ) H) (h : i < 1) (hlink : Cond.fieldLink own index "ExecutiveDeskModel" "interrupts" "I" ∈ ed_tb) (hdg : decode cc pc = .ok (.getfield index, 3))
    (kk : W p l e R s m args below meth c H locs cells slots Q (F0 m (pc + 3) ls (.int (σ 48 i 0) :: rest))) : W p l e R s m args below meth c H locs cells slots Q (F0 m pc ls (.ref (ad (pMod i)) :: rest)) :=
  va_get (D := D) (ci := 8) (C := "ExecutiveDeskModel") (T := T_Mod) (N := 53) B.1 B.2.1 B.2.2.2.2.1 iw_Mod B.2.2.2.1 B.2.2.2.2.2.1 hP (pMod i) (md_w_Mod h) rfl 48 (by decide) (B.2.2.2.2.1 _ hlink) (fun _ q => q) rfl hdg kk
theorem pf_Mod_interrupts (B : ed_B p s m args meth c cc own nL D ca) (hP : va_P D vwCl (md_w ad ca σ) H) (hD : va_D A (md_w ad ca σ)) (hS : va_S A s.heap H locs) (h : i < 1) (eq : σ1 = ed_st σ 48 i 0 v) (hlink : Cond.fieldLink own index "ExecutiveDeskModel" "interrupts" "I" ∈ ed_tb) (hdg : decode cc pc = .ok (.putfield index, 3))
    (kk : ∀ (H1 : Heap) (locs1 : List Loc), va_P D vwCl (md_w ad ca σ1) H1 → va_D A (md_w ad ca σ1) → va_S A s.heap H1 locs1 → W p l e R s m args below meth c H1 locs1 cells slots Q (F0 m (pc + 3) ls rest)) : W p l e R s m args below meth c H locs cells slots Q (F0 m pc ls (.int v :: .ref (ad (pMod i)) :: rest)) := by
  subst eq
  refine va_put (D := D) (ci := 8) (C := "ExecutiveDeskModel") (T := T_Mod) (N := 53) (v := .int v) (ty := .int) B.1 B.2.1 B.2.2.2.2.1 iw_Mod ty_Mod tyok_Mod nm_Mod B.2.2.2.1 B.2.2.2.2.2.1 hP hD hS (pMod i) (md_w_Mod h) rfl 48 (by decide) (B.2.2.2.2.1 _ hlink) (fun _ q => q) rfl (by decide +kernel) rfl rfl (Nat.le_of_ble_eq_true rfl) hdg (fun H1 locs1 hP1 hD1 hS1 => ?_)
  have q0 := md_w_set (ad := ad) (ca := ca) (σ := σ) (σ2 := ed_st σ 48 i 0 v) (md_lt_Mod h) (md_ct_Mod h) (fun z hl hz => md_ct_st hl hz)
  have q1 : cMod ad ca (ed_st σ 48 i 0 v) i = .inr (8, List.set [.ref (ad (pMgroups 0)), .ref (ad (pMalive 0)), .ref (ad (pMhad 0)), .ref (ad (pMhandleObject 0)), .ref (ad (pMhandleRights 0)), .ref (ad (pMhome 0)), .ref (ad (pMpriority 0)), .ref (ad (pMstate 0)), .ref (ad (pMresult 0)), .ref (ad (pMcalls 0)), .ref (ad (pMdelivered 0)), .ref (ad (pMlatest 0)), .ref (ad (pMused 0)), .ref (ad (pMdue 0)), .ref (ad (pMhow 0)), .ref (ad (pMbegan 0)), .ref (ad (pMstands 0)), .ref (ad (pMplace 0)), .ref (ad (pMrow 0)), .ref (ad (pMthere 0)), .ref (ad (pMisSet 0)), .ref (ad (pMabandoned 0)), .ref (ad (pMtype 0)), .ref (ad (pMname 0)), .ref (ad (pMcount 0)), .ref (ad (pMowner 0)), .ref (ad (pMtime 0)), .ref (ad (pMrules 0)), .ref (ad (pMruleKind 0)), .ref (ad (pMruleGroup 0)), .ref (ad (pMruleRights 0)), .ref (ad (pMtState 0)), .ref (ad (pMtAmount 0)), .ref (ad (pMtThread 0)), .ref (ad (pMtDevice 0)), .ref (ad (pMtLength 0)), .ref (ad (pMtSets 0)), .ref (ad (pMtOrder 0)), .ref (ad (pMtCancel 0)), .ref (ad (pMtAgain 0)), .ref (ad (pMwaiting 0)), .ref (ad (pMwaitingWell 0)), .int (σ 42 i 0), .int (σ 43 i 0), .int (σ 44 i 0), .int (σ 45 i 0), .int (σ 46 i 0), .int (σ 47 i 0), .int (σ 48 i 0), .int (σ 49 i 0), .int (σ 50 i 0), .int (σ 51 i 0), .int (σ 52 i 0)] 48 (.int v)) := by simp [cMod, ed_st]
  rw [q1] at q0
  rw [q0] at hP1 hD1
  exact kk H1 locs1 hP1 hD1 hS1
theorem gf_Mod_switches (B : ed_B p s m args meth c cc own nL D ca) (hP : va_P D vwCl (md_w ad ca σ) H) (h : i < 1) (hlink : Cond.fieldLink own index "ExecutiveDeskModel" "switches" "I" ∈ ed_tb) (hdg : decode cc pc = .ok (.getfield index, 3))
    (kk : W p l e R s m args below meth c H locs cells slots Q (F0 m (pc + 3) ls (.int (σ 49 i 0) :: rest))) : W p l e R s m args below meth c H locs cells slots Q (F0 m pc ls (.ref (ad (pMod i)) :: rest)) :=
  va_get (D := D) (ci := 8) (C := "ExecutiveDeskModel") (T := T_Mod) (N := 53) B.1 B.2.1 B.2.2.2.2.1 iw_Mod B.2.2.2.1 B.2.2.2.2.2.1 hP (pMod i) (md_w_Mod h) rfl 49 (by decide) (B.2.2.2.2.1 _ hlink) (fun _ q => q) rfl hdg kk
theorem pf_Mod_switches (B : ed_B p s m args meth c cc own nL D ca) (hP : va_P D vwCl (md_w ad ca σ) H) (hD : va_D A (md_w ad ca σ)) (hS : va_S A s.heap H locs) (h : i < 1) (eq : σ1 = ed_st σ 49 i 0 v) (hlink : Cond.fieldLink own index "ExecutiveDeskModel" "switches" "I" ∈ ed_tb) (hdg : decode cc pc = .ok (.putfield index, 3))
    (kk : ∀ (H1 : Heap) (locs1 : List Loc), va_P D vwCl (md_w ad ca σ1) H1 → va_D A (md_w ad ca σ1) → va_S A s.heap H1 locs1 → W p l e R s m args below meth c H1 locs1 cells slots Q (F0 m (pc + 3) ls rest)) : W p l e R s m args below meth c H locs cells slots Q (F0 m pc ls (.int v :: .ref (ad (pMod i)) :: rest)) := by
  subst eq
  refine va_put (D := D) (ci := 8) (C := "ExecutiveDeskModel") (T := T_Mod) (N := 53) (v := .int v) (ty := .int) B.1 B.2.1 B.2.2.2.2.1 iw_Mod ty_Mod tyok_Mod nm_Mod B.2.2.2.1 B.2.2.2.2.2.1 hP hD hS (pMod i) (md_w_Mod h) rfl 49 (by decide) (B.2.2.2.2.1 _ hlink) (fun _ q => q) rfl (by decide +kernel) rfl rfl (Nat.le_of_ble_eq_true rfl) hdg (fun H1 locs1 hP1 hD1 hS1 => ?_)
  have q0 := md_w_set (ad := ad) (ca := ca) (σ := σ) (σ2 := ed_st σ 49 i 0 v) (md_lt_Mod h) (md_ct_Mod h) (fun z hl hz => md_ct_st hl hz)
  have q1 : cMod ad ca (ed_st σ 49 i 0 v) i = .inr (8, List.set [.ref (ad (pMgroups 0)), .ref (ad (pMalive 0)), .ref (ad (pMhad 0)), .ref (ad (pMhandleObject 0)), .ref (ad (pMhandleRights 0)), .ref (ad (pMhome 0)), .ref (ad (pMpriority 0)), .ref (ad (pMstate 0)), .ref (ad (pMresult 0)), .ref (ad (pMcalls 0)), .ref (ad (pMdelivered 0)), .ref (ad (pMlatest 0)), .ref (ad (pMused 0)), .ref (ad (pMdue 0)), .ref (ad (pMhow 0)), .ref (ad (pMbegan 0)), .ref (ad (pMstands 0)), .ref (ad (pMplace 0)), .ref (ad (pMrow 0)), .ref (ad (pMthere 0)), .ref (ad (pMisSet 0)), .ref (ad (pMabandoned 0)), .ref (ad (pMtype 0)), .ref (ad (pMname 0)), .ref (ad (pMcount 0)), .ref (ad (pMowner 0)), .ref (ad (pMtime 0)), .ref (ad (pMrules 0)), .ref (ad (pMruleKind 0)), .ref (ad (pMruleGroup 0)), .ref (ad (pMruleRights 0)), .ref (ad (pMtState 0)), .ref (ad (pMtAmount 0)), .ref (ad (pMtThread 0)), .ref (ad (pMtDevice 0)), .ref (ad (pMtLength 0)), .ref (ad (pMtSets 0)), .ref (ad (pMtOrder 0)), .ref (ad (pMtCancel 0)), .ref (ad (pMtAgain 0)), .ref (ad (pMwaiting 0)), .ref (ad (pMwaitingWell 0)), .int (σ 42 i 0), .int (σ 43 i 0), .int (σ 44 i 0), .int (σ 45 i 0), .int (σ 46 i 0), .int (σ 47 i 0), .int (σ 48 i 0), .int (σ 49 i 0), .int (σ 50 i 0), .int (σ 51 i 0), .int (σ 52 i 0)] 49 (.int v)) := by simp [cMod, ed_st]
  rw [q1] at q0
  rw [q0] at hP1 hD1
  exact kk H1 locs1 hP1 hD1 hS1
theorem gf_Mod_overs (B : ed_B p s m args meth c cc own nL D ca) (hP : va_P D vwCl (md_w ad ca σ) H) (h : i < 1) (hlink : Cond.fieldLink own index "ExecutiveDeskModel" "overs" "I" ∈ ed_tb) (hdg : decode cc pc = .ok (.getfield index, 3))
    (kk : W p l e R s m args below meth c H locs cells slots Q (F0 m (pc + 3) ls (.int (σ 50 i 0) :: rest))) : W p l e R s m args below meth c H locs cells slots Q (F0 m pc ls (.ref (ad (pMod i)) :: rest)) :=
  va_get (D := D) (ci := 8) (C := "ExecutiveDeskModel") (T := T_Mod) (N := 53) B.1 B.2.1 B.2.2.2.2.1 iw_Mod B.2.2.2.1 B.2.2.2.2.2.1 hP (pMod i) (md_w_Mod h) rfl 50 (by decide) (B.2.2.2.2.1 _ hlink) (fun _ q => q) rfl hdg kk
theorem pf_Mod_overs (B : ed_B p s m args meth c cc own nL D ca) (hP : va_P D vwCl (md_w ad ca σ) H) (hD : va_D A (md_w ad ca σ)) (hS : va_S A s.heap H locs) (h : i < 1) (eq : σ1 = ed_st σ 50 i 0 v) (hlink : Cond.fieldLink own index "ExecutiveDeskModel" "overs" "I" ∈ ed_tb) (hdg : decode cc pc = .ok (.putfield index, 3))
    (kk : ∀ (H1 : Heap) (locs1 : List Loc), va_P D vwCl (md_w ad ca σ1) H1 → va_D A (md_w ad ca σ1) → va_S A s.heap H1 locs1 → W p l e R s m args below meth c H1 locs1 cells slots Q (F0 m (pc + 3) ls rest)) : W p l e R s m args below meth c H locs cells slots Q (F0 m pc ls (.int v :: .ref (ad (pMod i)) :: rest)) := by
  subst eq
  refine va_put (D := D) (ci := 8) (C := "ExecutiveDeskModel") (T := T_Mod) (N := 53) (v := .int v) (ty := .int) B.1 B.2.1 B.2.2.2.2.1 iw_Mod ty_Mod tyok_Mod nm_Mod B.2.2.2.1 B.2.2.2.2.2.1 hP hD hS (pMod i) (md_w_Mod h) rfl 50 (by decide) (B.2.2.2.2.1 _ hlink) (fun _ q => q) rfl (by decide +kernel) rfl rfl (Nat.le_of_ble_eq_true rfl) hdg (fun H1 locs1 hP1 hD1 hS1 => ?_)
  have q0 := md_w_set (ad := ad) (ca := ca) (σ := σ) (σ2 := ed_st σ 50 i 0 v) (md_lt_Mod h) (md_ct_Mod h) (fun z hl hz => md_ct_st hl hz)
  have q1 : cMod ad ca (ed_st σ 50 i 0 v) i = .inr (8, List.set [.ref (ad (pMgroups 0)), .ref (ad (pMalive 0)), .ref (ad (pMhad 0)), .ref (ad (pMhandleObject 0)), .ref (ad (pMhandleRights 0)), .ref (ad (pMhome 0)), .ref (ad (pMpriority 0)), .ref (ad (pMstate 0)), .ref (ad (pMresult 0)), .ref (ad (pMcalls 0)), .ref (ad (pMdelivered 0)), .ref (ad (pMlatest 0)), .ref (ad (pMused 0)), .ref (ad (pMdue 0)), .ref (ad (pMhow 0)), .ref (ad (pMbegan 0)), .ref (ad (pMstands 0)), .ref (ad (pMplace 0)), .ref (ad (pMrow 0)), .ref (ad (pMthere 0)), .ref (ad (pMisSet 0)), .ref (ad (pMabandoned 0)), .ref (ad (pMtype 0)), .ref (ad (pMname 0)), .ref (ad (pMcount 0)), .ref (ad (pMowner 0)), .ref (ad (pMtime 0)), .ref (ad (pMrules 0)), .ref (ad (pMruleKind 0)), .ref (ad (pMruleGroup 0)), .ref (ad (pMruleRights 0)), .ref (ad (pMtState 0)), .ref (ad (pMtAmount 0)), .ref (ad (pMtThread 0)), .ref (ad (pMtDevice 0)), .ref (ad (pMtLength 0)), .ref (ad (pMtSets 0)), .ref (ad (pMtOrder 0)), .ref (ad (pMtCancel 0)), .ref (ad (pMtAgain 0)), .ref (ad (pMwaiting 0)), .ref (ad (pMwaitingWell 0)), .int (σ 42 i 0), .int (σ 43 i 0), .int (σ 44 i 0), .int (σ 45 i 0), .int (σ 46 i 0), .int (σ 47 i 0), .int (σ 48 i 0), .int (σ 49 i 0), .int (σ 50 i 0), .int (σ 51 i 0), .int (σ 52 i 0)] 50 (.int v)) := by simp [cMod, ed_st]
  rw [q1] at q0
  rw [q0] at hP1 hD1
  exact kk H1 locs1 hP1 hD1 hS1
theorem gf_Mod_orders (B : ed_B p s m args meth c cc own nL D ca) (hP : va_P D vwCl (md_w ad ca σ) H) (h : i < 1) (hlink : Cond.fieldLink own index "ExecutiveDeskModel" "orders" "I" ∈ ed_tb) (hdg : decode cc pc = .ok (.getfield index, 3))
    (kk : W p l e R s m args below meth c H locs cells slots Q (F0 m (pc + 3) ls (.int (σ 51 i 0) :: rest))) : W p l e R s m args below meth c H locs cells slots Q (F0 m pc ls (.ref (ad (pMod i)) :: rest)) :=
  va_get (D := D) (ci := 8) (C := "ExecutiveDeskModel") (T := T_Mod) (N := 53) B.1 B.2.1 B.2.2.2.2.1 iw_Mod B.2.2.2.1 B.2.2.2.2.2.1 hP (pMod i) (md_w_Mod h) rfl 51 (by decide) (B.2.2.2.2.1 _ hlink) (fun _ q => q) rfl hdg kk
theorem pf_Mod_orders (B : ed_B p s m args meth c cc own nL D ca) (hP : va_P D vwCl (md_w ad ca σ) H) (hD : va_D A (md_w ad ca σ)) (hS : va_S A s.heap H locs) (h : i < 1) (eq : σ1 = ed_st σ 51 i 0 v) (hlink : Cond.fieldLink own index "ExecutiveDeskModel" "orders" "I" ∈ ed_tb) (hdg : decode cc pc = .ok (.putfield index, 3))
    (kk : ∀ (H1 : Heap) (locs1 : List Loc), va_P D vwCl (md_w ad ca σ1) H1 → va_D A (md_w ad ca σ1) → va_S A s.heap H1 locs1 → W p l e R s m args below meth c H1 locs1 cells slots Q (F0 m (pc + 3) ls rest)) : W p l e R s m args below meth c H locs cells slots Q (F0 m pc ls (.int v :: .ref (ad (pMod i)) :: rest)) := by
  subst eq
  refine va_put (D := D) (ci := 8) (C := "ExecutiveDeskModel") (T := T_Mod) (N := 53) (v := .int v) (ty := .int) B.1 B.2.1 B.2.2.2.2.1 iw_Mod ty_Mod tyok_Mod nm_Mod B.2.2.2.1 B.2.2.2.2.2.1 hP hD hS (pMod i) (md_w_Mod h) rfl 51 (by decide) (B.2.2.2.2.1 _ hlink) (fun _ q => q) rfl (by decide +kernel) rfl rfl (Nat.le_of_ble_eq_true rfl) hdg (fun H1 locs1 hP1 hD1 hS1 => ?_)
  have q0 := md_w_set (ad := ad) (ca := ca) (σ := σ) (σ2 := ed_st σ 51 i 0 v) (md_lt_Mod h) (md_ct_Mod h) (fun z hl hz => md_ct_st hl hz)
  have q1 : cMod ad ca (ed_st σ 51 i 0 v) i = .inr (8, List.set [.ref (ad (pMgroups 0)), .ref (ad (pMalive 0)), .ref (ad (pMhad 0)), .ref (ad (pMhandleObject 0)), .ref (ad (pMhandleRights 0)), .ref (ad (pMhome 0)), .ref (ad (pMpriority 0)), .ref (ad (pMstate 0)), .ref (ad (pMresult 0)), .ref (ad (pMcalls 0)), .ref (ad (pMdelivered 0)), .ref (ad (pMlatest 0)), .ref (ad (pMused 0)), .ref (ad (pMdue 0)), .ref (ad (pMhow 0)), .ref (ad (pMbegan 0)), .ref (ad (pMstands 0)), .ref (ad (pMplace 0)), .ref (ad (pMrow 0)), .ref (ad (pMthere 0)), .ref (ad (pMisSet 0)), .ref (ad (pMabandoned 0)), .ref (ad (pMtype 0)), .ref (ad (pMname 0)), .ref (ad (pMcount 0)), .ref (ad (pMowner 0)), .ref (ad (pMtime 0)), .ref (ad (pMrules 0)), .ref (ad (pMruleKind 0)), .ref (ad (pMruleGroup 0)), .ref (ad (pMruleRights 0)), .ref (ad (pMtState 0)), .ref (ad (pMtAmount 0)), .ref (ad (pMtThread 0)), .ref (ad (pMtDevice 0)), .ref (ad (pMtLength 0)), .ref (ad (pMtSets 0)), .ref (ad (pMtOrder 0)), .ref (ad (pMtCancel 0)), .ref (ad (pMtAgain 0)), .ref (ad (pMwaiting 0)), .ref (ad (pMwaitingWell 0)), .int (σ 42 i 0), .int (σ 43 i 0), .int (σ 44 i 0), .int (σ 45 i 0), .int (σ 46 i 0), .int (σ 47 i 0), .int (σ 48 i 0), .int (σ 49 i 0), .int (σ 50 i 0), .int (σ 51 i 0), .int (σ 52 i 0)] 51 (.int v)) := by simp [cMod, ed_st]
  rw [q1] at q0
  rw [q0] at hP1 hD1
  exact kk H1 locs1 hP1 hD1 hS1
theorem gf_Mod_front (B : ed_B p s m args meth c cc own nL D ca) (hP : va_P D vwCl (md_w ad ca σ) H) (h : i < 1) (hlink : Cond.fieldLink own index "ExecutiveDeskModel" "front" "I" ∈ ed_tb) (hdg : decode cc pc = .ok (.getfield index, 3))
    (kk : W p l e R s m args below meth c H locs cells slots Q (F0 m (pc + 3) ls (.int (σ 52 i 0) :: rest))) : W p l e R s m args below meth c H locs cells slots Q (F0 m pc ls (.ref (ad (pMod i)) :: rest)) :=
  va_get (D := D) (ci := 8) (C := "ExecutiveDeskModel") (T := T_Mod) (N := 53) B.1 B.2.1 B.2.2.2.2.1 iw_Mod B.2.2.2.1 B.2.2.2.2.2.1 hP (pMod i) (md_w_Mod h) rfl 52 (by decide) (B.2.2.2.2.1 _ hlink) (fun _ q => q) rfl hdg kk
theorem pf_Mod_front (B : ed_B p s m args meth c cc own nL D ca) (hP : va_P D vwCl (md_w ad ca σ) H) (hD : va_D A (md_w ad ca σ)) (hS : va_S A s.heap H locs) (h : i < 1) (eq : σ1 = ed_st σ 52 i 0 v) (hlink : Cond.fieldLink own index "ExecutiveDeskModel" "front" "I" ∈ ed_tb) (hdg : decode cc pc = .ok (.putfield index, 3))
    (kk : ∀ (H1 : Heap) (locs1 : List Loc), va_P D vwCl (md_w ad ca σ1) H1 → va_D A (md_w ad ca σ1) → va_S A s.heap H1 locs1 → W p l e R s m args below meth c H1 locs1 cells slots Q (F0 m (pc + 3) ls rest)) : W p l e R s m args below meth c H locs cells slots Q (F0 m pc ls (.int v :: .ref (ad (pMod i)) :: rest)) := by
  subst eq
  refine va_put (D := D) (ci := 8) (C := "ExecutiveDeskModel") (T := T_Mod) (N := 53) (v := .int v) (ty := .int) B.1 B.2.1 B.2.2.2.2.1 iw_Mod ty_Mod tyok_Mod nm_Mod B.2.2.2.1 B.2.2.2.2.2.1 hP hD hS (pMod i) (md_w_Mod h) rfl 52 (by decide) (B.2.2.2.2.1 _ hlink) (fun _ q => q) rfl (by decide +kernel) rfl rfl (Nat.le_of_ble_eq_true rfl) hdg (fun H1 locs1 hP1 hD1 hS1 => ?_)
  have q0 := md_w_set (ad := ad) (ca := ca) (σ := σ) (σ2 := ed_st σ 52 i 0 v) (md_lt_Mod h) (md_ct_Mod h) (fun z hl hz => md_ct_st hl hz)
  have q1 : cMod ad ca (ed_st σ 52 i 0 v) i = .inr (8, List.set [.ref (ad (pMgroups 0)), .ref (ad (pMalive 0)), .ref (ad (pMhad 0)), .ref (ad (pMhandleObject 0)), .ref (ad (pMhandleRights 0)), .ref (ad (pMhome 0)), .ref (ad (pMpriority 0)), .ref (ad (pMstate 0)), .ref (ad (pMresult 0)), .ref (ad (pMcalls 0)), .ref (ad (pMdelivered 0)), .ref (ad (pMlatest 0)), .ref (ad (pMused 0)), .ref (ad (pMdue 0)), .ref (ad (pMhow 0)), .ref (ad (pMbegan 0)), .ref (ad (pMstands 0)), .ref (ad (pMplace 0)), .ref (ad (pMrow 0)), .ref (ad (pMthere 0)), .ref (ad (pMisSet 0)), .ref (ad (pMabandoned 0)), .ref (ad (pMtype 0)), .ref (ad (pMname 0)), .ref (ad (pMcount 0)), .ref (ad (pMowner 0)), .ref (ad (pMtime 0)), .ref (ad (pMrules 0)), .ref (ad (pMruleKind 0)), .ref (ad (pMruleGroup 0)), .ref (ad (pMruleRights 0)), .ref (ad (pMtState 0)), .ref (ad (pMtAmount 0)), .ref (ad (pMtThread 0)), .ref (ad (pMtDevice 0)), .ref (ad (pMtLength 0)), .ref (ad (pMtSets 0)), .ref (ad (pMtOrder 0)), .ref (ad (pMtCancel 0)), .ref (ad (pMtAgain 0)), .ref (ad (pMwaiting 0)), .ref (ad (pMwaitingWell 0)), .int (σ 42 i 0), .int (σ 43 i 0), .int (σ 44 i 0), .int (σ 45 i 0), .int (σ 46 i 0), .int (σ 47 i 0), .int (σ 48 i 0), .int (σ 49 i 0), .int (σ 50 i 0), .int (σ 51 i 0), .int (σ 52 i 0)] 52 (.int v)) := by simp [cMod, ed_st]
  rw [q1] at q0
  rw [q0] at hP1 hD1
  exact kk H1 locs1 hP1 hD1 hS1
theorem ed_rc_Mod (B : ed_B p s m args meth c cc own nL D ca) (hP : va_P D vwCl (md_w ad ca σ) H) (h : i < 1) : ∃ cell : Cell, H[ad (pMod i)]? = some cell ∧ cell.vm.isStatics = false ∧ s.vm.findClass "ExecutiveDeskModel" = some cell.cls := va_recv B.2.2.2.2.2.1 hP (ci := 8) (q0 := pMod i) rfl (md_w_Mod h)
theorem il_Mgroups (B : ed_B p s m args meth c cc own nL D ca) (hP : va_P D vwCl (md_w ad ca σ) H) (h : i < 1) (hin : vp_in x 4) (hj : x.toNatClampNeg = j) (hdg : decode cc pc = .ok (.iaload, 1))
    (kk : W p l e R s m args below meth c H locs cells slots Q (F0 m (pc + 1) ls (.int (σ 0 i j) :: rest))) : W p l e R s m args below meth c H locs cells slots Q (F0 m pc ls (.int x :: .ref (ad (pMgroups i)) :: rest)) := by
  subst hj
  exact va_iald B.1 B.2.1 B.2.2.2.2.2.1 hP (pMgroups i) 0 (md_w_Mgroups h) rfl hin hdg kk
theorem is_Mgroups (B : ed_B p s m args meth c cc own nL D ca) (hP : va_P D vwCl (md_w ad ca σ) H) (hD : va_D A (md_w ad ca σ)) (hS : va_S A s.heap H locs) (h : i < 1) (hin : vp_in x 4) (hj : x.toNatClampNeg = j) (eq : σ1 = ed_st σ 0 i j v) (hdg : decode cc pc = .ok (.iastore, 1))
    (kk : ∀ (H1 : Heap) (locs1 : List Loc), va_P D vwCl (md_w ad ca σ1) H1 → va_D A (md_w ad ca σ1) → va_S A s.heap H1 locs1 → W p l e R s m args below meth c H1 locs1 cells slots Q (F0 m (pc + 1) ls rest)) : W p l e R s m args below meth c H locs cells slots Q (F0 m pc ls (.int v :: .int x :: .ref (ad (pMgroups i)) :: rest)) := by
  subst eq
  subst hj
  refine va_iast B.1 B.2.1 B.2.2.2.2.2.1 hP hD hS (pMgroups i) 0 (md_w_Mgroups h) rfl hin hdg (fun H1 locs1 hP1 hD1 hS1 => ?_)
  have q0 := md_w_set (ad := ad) (ca := ca) (σ := σ) (σ2 := ed_st σ 0 i x.toNatClampNeg v) (md_lt_Mgroups h) (md_ct_Mgroups h) (fun z hl hz => md_ct_st hl hz)
  have q1 : cMgroups ad ca (ed_st σ 0 i x.toNatClampNeg v) i = .inl (ca 0, 4, .inl (upd (fun j => σ 0 i j) x.toNatClampNeg v)) := by
    show Sum.inl (ca 0, 4, Sum.inl _) = Sum.inl (ca 0, 4, Sum.inl _)
    congr 3
    refine congrArg Sum.inl ?_
    funext j
    simp [ed_st, upd]
  rw [q1] at q0
  rw [q0] at hP1 hD1
  exact kk H1 locs1 hP1 hD1 hS1
theorem an_Mgroups (B : ed_B p s m args meth c cc own nL D ca) (hP : va_P D vwCl (md_w ad ca σ) H) (h : i < 1) (hdg : decode cc pc = .ok (.arraylength, 1))
    (kk : W p l e R s m args below meth c H locs cells slots Q (F0 m (pc + 1) ls (.int (nI 4) :: rest))) : W p l e R s m args below meth c H locs cells slots Q (F0 m pc ls (.ref (ad (pMgroups i)) :: rest)) :=
  va_alen B.1 B.2.1 B.2.2.2.2.2.1 hP (pMgroups i) 0 (md_w_Mgroups h) rfl rfl hdg kk
theorem il_Malive (B : ed_B p s m args meth c cc own nL D ca) (hP : va_P D vwCl (md_w ad ca σ) H) (h : i < 1) (hin : vp_in x 4) (hj : x.toNatClampNeg = j) (hdg : decode cc pc = .ok (.iaload, 1))
    (kk : W p l e R s m args below meth c H locs cells slots Q (F0 m (pc + 1) ls (.int (σ 1 i j) :: rest))) : W p l e R s m args below meth c H locs cells slots Q (F0 m pc ls (.int x :: .ref (ad (pMalive i)) :: rest)) := by
  subst hj
  exact va_iald B.1 B.2.1 B.2.2.2.2.2.1 hP (pMalive i) 0 (md_w_Malive h) rfl hin hdg kk
theorem is_Malive (B : ed_B p s m args meth c cc own nL D ca) (hP : va_P D vwCl (md_w ad ca σ) H) (hD : va_D A (md_w ad ca σ)) (hS : va_S A s.heap H locs) (h : i < 1) (hin : vp_in x 4) (hj : x.toNatClampNeg = j) (eq : σ1 = ed_st σ 1 i j v) (hdg : decode cc pc = .ok (.iastore, 1))
    (kk : ∀ (H1 : Heap) (locs1 : List Loc), va_P D vwCl (md_w ad ca σ1) H1 → va_D A (md_w ad ca σ1) → va_S A s.heap H1 locs1 → W p l e R s m args below meth c H1 locs1 cells slots Q (F0 m (pc + 1) ls rest)) : W p l e R s m args below meth c H locs cells slots Q (F0 m pc ls (.int v :: .int x :: .ref (ad (pMalive i)) :: rest)) := by
  subst eq
  subst hj
  refine va_iast B.1 B.2.1 B.2.2.2.2.2.1 hP hD hS (pMalive i) 0 (md_w_Malive h) rfl hin hdg (fun H1 locs1 hP1 hD1 hS1 => ?_)
  have q0 := md_w_set (ad := ad) (ca := ca) (σ := σ) (σ2 := ed_st σ 1 i x.toNatClampNeg v) (md_lt_Malive h) (md_ct_Malive h) (fun z hl hz => md_ct_st hl hz)
  have q1 : cMalive ad ca (ed_st σ 1 i x.toNatClampNeg v) i = .inl (ca 0, 4, .inl (upd (fun j => σ 1 i j) x.toNatClampNeg v)) := by
    show Sum.inl (ca 0, 4, Sum.inl _) = Sum.inl (ca 0, 4, Sum.inl _)
    congr 3
    refine congrArg Sum.inl ?_
    funext j
    simp [ed_st, upd]
  rw [q1] at q0
  rw [q0] at hP1 hD1
  exact kk H1 locs1 hP1 hD1 hS1
theorem an_Malive (B : ed_B p s m args meth c cc own nL D ca) (hP : va_P D vwCl (md_w ad ca σ) H) (h : i < 1) (hdg : decode cc pc = .ok (.arraylength, 1))
    (kk : W p l e R s m args below meth c H locs cells slots Q (F0 m (pc + 1) ls (.int (nI 4) :: rest))) : W p l e R s m args below meth c H locs cells slots Q (F0 m pc ls (.ref (ad (pMalive i)) :: rest)) :=
  va_alen B.1 B.2.1 B.2.2.2.2.2.1 hP (pMalive i) 0 (md_w_Malive h) rfl rfl hdg kk
theorem il_Mhad (B : ed_B p s m args meth c cc own nL D ca) (hP : va_P D vwCl (md_w ad ca σ) H) (h : i < 1) (hin : vp_in x 4) (hj : x.toNatClampNeg = j) (hdg : decode cc pc = .ok (.iaload, 1))
    (kk : W p l e R s m args below meth c H locs cells slots Q (F0 m (pc + 1) ls (.int (σ 2 i j) :: rest))) : W p l e R s m args below meth c H locs cells slots Q (F0 m pc ls (.int x :: .ref (ad (pMhad i)) :: rest)) := by
  subst hj
  exact va_iald B.1 B.2.1 B.2.2.2.2.2.1 hP (pMhad i) 0 (md_w_Mhad h) rfl hin hdg kk
theorem is_Mhad (B : ed_B p s m args meth c cc own nL D ca) (hP : va_P D vwCl (md_w ad ca σ) H) (hD : va_D A (md_w ad ca σ)) (hS : va_S A s.heap H locs) (h : i < 1) (hin : vp_in x 4) (hj : x.toNatClampNeg = j) (eq : σ1 = ed_st σ 2 i j v) (hdg : decode cc pc = .ok (.iastore, 1))
    (kk : ∀ (H1 : Heap) (locs1 : List Loc), va_P D vwCl (md_w ad ca σ1) H1 → va_D A (md_w ad ca σ1) → va_S A s.heap H1 locs1 → W p l e R s m args below meth c H1 locs1 cells slots Q (F0 m (pc + 1) ls rest)) : W p l e R s m args below meth c H locs cells slots Q (F0 m pc ls (.int v :: .int x :: .ref (ad (pMhad i)) :: rest)) := by
  subst eq
  subst hj
  refine va_iast B.1 B.2.1 B.2.2.2.2.2.1 hP hD hS (pMhad i) 0 (md_w_Mhad h) rfl hin hdg (fun H1 locs1 hP1 hD1 hS1 => ?_)
  have q0 := md_w_set (ad := ad) (ca := ca) (σ := σ) (σ2 := ed_st σ 2 i x.toNatClampNeg v) (md_lt_Mhad h) (md_ct_Mhad h) (fun z hl hz => md_ct_st hl hz)
  have q1 : cMhad ad ca (ed_st σ 2 i x.toNatClampNeg v) i = .inl (ca 0, 4, .inl (upd (fun j => σ 2 i j) x.toNatClampNeg v)) := by
    show Sum.inl (ca 0, 4, Sum.inl _) = Sum.inl (ca 0, 4, Sum.inl _)
    congr 3
    refine congrArg Sum.inl ?_
    funext j
    simp [ed_st, upd]
  rw [q1] at q0
  rw [q0] at hP1 hD1
  exact kk H1 locs1 hP1 hD1 hS1
theorem an_Mhad (B : ed_B p s m args meth c cc own nL D ca) (hP : va_P D vwCl (md_w ad ca σ) H) (h : i < 1) (hdg : decode cc pc = .ok (.arraylength, 1))
    (kk : W p l e R s m args below meth c H locs cells slots Q (F0 m (pc + 1) ls (.int (nI 4) :: rest))) : W p l e R s m args below meth c H locs cells slots Q (F0 m pc ls (.ref (ad (pMhad i)) :: rest)) :=
  va_alen B.1 B.2.1 B.2.2.2.2.2.1 hP (pMhad i) 0 (md_w_Mhad h) rfl rfl hdg kk
theorem il_MhandleObject (B : ed_B p s m args meth c cc own nL D ca) (hP : va_P D vwCl (md_w ad ca σ) H) (h : i < 1) (hin : vp_in x 32) (hj : x.toNatClampNeg = j) (hdg : decode cc pc = .ok (.iaload, 1))
    (kk : W p l e R s m args below meth c H locs cells slots Q (F0 m (pc + 1) ls (.int (σ 3 i j) :: rest))) : W p l e R s m args below meth c H locs cells slots Q (F0 m pc ls (.int x :: .ref (ad (pMhandleObject i)) :: rest)) := by
  subst hj
  exact va_iald B.1 B.2.1 B.2.2.2.2.2.1 hP (pMhandleObject i) 0 (md_w_MhandleObject h) rfl hin hdg kk
theorem is_MhandleObject (B : ed_B p s m args meth c cc own nL D ca) (hP : va_P D vwCl (md_w ad ca σ) H) (hD : va_D A (md_w ad ca σ)) (hS : va_S A s.heap H locs) (h : i < 1) (hin : vp_in x 32) (hj : x.toNatClampNeg = j) (eq : σ1 = ed_st σ 3 i j v) (hdg : decode cc pc = .ok (.iastore, 1))
    (kk : ∀ (H1 : Heap) (locs1 : List Loc), va_P D vwCl (md_w ad ca σ1) H1 → va_D A (md_w ad ca σ1) → va_S A s.heap H1 locs1 → W p l e R s m args below meth c H1 locs1 cells slots Q (F0 m (pc + 1) ls rest)) : W p l e R s m args below meth c H locs cells slots Q (F0 m pc ls (.int v :: .int x :: .ref (ad (pMhandleObject i)) :: rest)) := by
  subst eq
  subst hj
  refine va_iast B.1 B.2.1 B.2.2.2.2.2.1 hP hD hS (pMhandleObject i) 0 (md_w_MhandleObject h) rfl hin hdg (fun H1 locs1 hP1 hD1 hS1 => ?_)
  have q0 := md_w_set (ad := ad) (ca := ca) (σ := σ) (σ2 := ed_st σ 3 i x.toNatClampNeg v) (md_lt_MhandleObject h) (md_ct_MhandleObject h) (fun z hl hz => md_ct_st hl hz)
  have q1 : cMhandleObject ad ca (ed_st σ 3 i x.toNatClampNeg v) i = .inl (ca 0, 32, .inl (upd (fun j => σ 3 i j) x.toNatClampNeg v)) := by
    show Sum.inl (ca 0, 32, Sum.inl _) = Sum.inl (ca 0, 32, Sum.inl _)
    congr 3
    refine congrArg Sum.inl ?_
    funext j
    simp [ed_st, upd]
  rw [q1] at q0
  rw [q0] at hP1 hD1
  exact kk H1 locs1 hP1 hD1 hS1
theorem an_MhandleObject (B : ed_B p s m args meth c cc own nL D ca) (hP : va_P D vwCl (md_w ad ca σ) H) (h : i < 1) (hdg : decode cc pc = .ok (.arraylength, 1))
    (kk : W p l e R s m args below meth c H locs cells slots Q (F0 m (pc + 1) ls (.int (nI 32) :: rest))) : W p l e R s m args below meth c H locs cells slots Q (F0 m pc ls (.ref (ad (pMhandleObject i)) :: rest)) :=
  va_alen B.1 B.2.1 B.2.2.2.2.2.1 hP (pMhandleObject i) 0 (md_w_MhandleObject h) rfl rfl hdg kk
theorem il_MhandleRights (B : ed_B p s m args meth c cc own nL D ca) (hP : va_P D vwCl (md_w ad ca σ) H) (h : i < 1) (hin : vp_in x 32) (hj : x.toNatClampNeg = j) (hdg : decode cc pc = .ok (.iaload, 1))
    (kk : W p l e R s m args below meth c H locs cells slots Q (F0 m (pc + 1) ls (.int (σ 4 i j) :: rest))) : W p l e R s m args below meth c H locs cells slots Q (F0 m pc ls (.int x :: .ref (ad (pMhandleRights i)) :: rest)) := by
  subst hj
  exact va_iald B.1 B.2.1 B.2.2.2.2.2.1 hP (pMhandleRights i) 0 (md_w_MhandleRights h) rfl hin hdg kk
theorem is_MhandleRights (B : ed_B p s m args meth c cc own nL D ca) (hP : va_P D vwCl (md_w ad ca σ) H) (hD : va_D A (md_w ad ca σ)) (hS : va_S A s.heap H locs) (h : i < 1) (hin : vp_in x 32) (hj : x.toNatClampNeg = j) (eq : σ1 = ed_st σ 4 i j v) (hdg : decode cc pc = .ok (.iastore, 1))
    (kk : ∀ (H1 : Heap) (locs1 : List Loc), va_P D vwCl (md_w ad ca σ1) H1 → va_D A (md_w ad ca σ1) → va_S A s.heap H1 locs1 → W p l e R s m args below meth c H1 locs1 cells slots Q (F0 m (pc + 1) ls rest)) : W p l e R s m args below meth c H locs cells slots Q (F0 m pc ls (.int v :: .int x :: .ref (ad (pMhandleRights i)) :: rest)) := by
  subst eq
  subst hj
  refine va_iast B.1 B.2.1 B.2.2.2.2.2.1 hP hD hS (pMhandleRights i) 0 (md_w_MhandleRights h) rfl hin hdg (fun H1 locs1 hP1 hD1 hS1 => ?_)
  have q0 := md_w_set (ad := ad) (ca := ca) (σ := σ) (σ2 := ed_st σ 4 i x.toNatClampNeg v) (md_lt_MhandleRights h) (md_ct_MhandleRights h) (fun z hl hz => md_ct_st hl hz)
  have q1 : cMhandleRights ad ca (ed_st σ 4 i x.toNatClampNeg v) i = .inl (ca 0, 32, .inl (upd (fun j => σ 4 i j) x.toNatClampNeg v)) := by
    show Sum.inl (ca 0, 32, Sum.inl _) = Sum.inl (ca 0, 32, Sum.inl _)
    congr 3
    refine congrArg Sum.inl ?_
    funext j
    simp [ed_st, upd]
  rw [q1] at q0
  rw [q0] at hP1 hD1
  exact kk H1 locs1 hP1 hD1 hS1
theorem an_MhandleRights (B : ed_B p s m args meth c cc own nL D ca) (hP : va_P D vwCl (md_w ad ca σ) H) (h : i < 1) (hdg : decode cc pc = .ok (.arraylength, 1))
    (kk : W p l e R s m args below meth c H locs cells slots Q (F0 m (pc + 1) ls (.int (nI 32) :: rest))) : W p l e R s m args below meth c H locs cells slots Q (F0 m pc ls (.ref (ad (pMhandleRights i)) :: rest)) :=
  va_alen B.1 B.2.1 B.2.2.2.2.2.1 hP (pMhandleRights i) 0 (md_w_MhandleRights h) rfl rfl hdg kk
theorem il_Mhome (B : ed_B p s m args meth c cc own nL D ca) (hP : va_P D vwCl (md_w ad ca σ) H) (h : i < 1) (hin : vp_in x 8) (hj : x.toNatClampNeg = j) (hdg : decode cc pc = .ok (.iaload, 1))
    (kk : W p l e R s m args below meth c H locs cells slots Q (F0 m (pc + 1) ls (.int (σ 5 i j) :: rest))) : W p l e R s m args below meth c H locs cells slots Q (F0 m pc ls (.int x :: .ref (ad (pMhome i)) :: rest)) := by
  subst hj
  exact va_iald B.1 B.2.1 B.2.2.2.2.2.1 hP (pMhome i) 0 (md_w_Mhome h) rfl hin hdg kk
theorem is_Mhome (B : ed_B p s m args meth c cc own nL D ca) (hP : va_P D vwCl (md_w ad ca σ) H) (hD : va_D A (md_w ad ca σ)) (hS : va_S A s.heap H locs) (h : i < 1) (hin : vp_in x 8) (hj : x.toNatClampNeg = j) (eq : σ1 = ed_st σ 5 i j v) (hdg : decode cc pc = .ok (.iastore, 1))
    (kk : ∀ (H1 : Heap) (locs1 : List Loc), va_P D vwCl (md_w ad ca σ1) H1 → va_D A (md_w ad ca σ1) → va_S A s.heap H1 locs1 → W p l e R s m args below meth c H1 locs1 cells slots Q (F0 m (pc + 1) ls rest)) : W p l e R s m args below meth c H locs cells slots Q (F0 m pc ls (.int v :: .int x :: .ref (ad (pMhome i)) :: rest)) := by
  subst eq
  subst hj
  refine va_iast B.1 B.2.1 B.2.2.2.2.2.1 hP hD hS (pMhome i) 0 (md_w_Mhome h) rfl hin hdg (fun H1 locs1 hP1 hD1 hS1 => ?_)
  have q0 := md_w_set (ad := ad) (ca := ca) (σ := σ) (σ2 := ed_st σ 5 i x.toNatClampNeg v) (md_lt_Mhome h) (md_ct_Mhome h) (fun z hl hz => md_ct_st hl hz)
  have q1 : cMhome ad ca (ed_st σ 5 i x.toNatClampNeg v) i = .inl (ca 0, 8, .inl (upd (fun j => σ 5 i j) x.toNatClampNeg v)) := by
    show Sum.inl (ca 0, 8, Sum.inl _) = Sum.inl (ca 0, 8, Sum.inl _)
    congr 3
    refine congrArg Sum.inl ?_
    funext j
    simp [ed_st, upd]
  rw [q1] at q0
  rw [q0] at hP1 hD1
  exact kk H1 locs1 hP1 hD1 hS1
theorem an_Mhome (B : ed_B p s m args meth c cc own nL D ca) (hP : va_P D vwCl (md_w ad ca σ) H) (h : i < 1) (hdg : decode cc pc = .ok (.arraylength, 1))
    (kk : W p l e R s m args below meth c H locs cells slots Q (F0 m (pc + 1) ls (.int (nI 8) :: rest))) : W p l e R s m args below meth c H locs cells slots Q (F0 m pc ls (.ref (ad (pMhome i)) :: rest)) :=
  va_alen B.1 B.2.1 B.2.2.2.2.2.1 hP (pMhome i) 0 (md_w_Mhome h) rfl rfl hdg kk
theorem il_Mpriority (B : ed_B p s m args meth c cc own nL D ca) (hP : va_P D vwCl (md_w ad ca σ) H) (h : i < 1) (hin : vp_in x 8) (hj : x.toNatClampNeg = j) (hdg : decode cc pc = .ok (.iaload, 1))
    (kk : W p l e R s m args below meth c H locs cells slots Q (F0 m (pc + 1) ls (.int (σ 6 i j) :: rest))) : W p l e R s m args below meth c H locs cells slots Q (F0 m pc ls (.int x :: .ref (ad (pMpriority i)) :: rest)) := by
  subst hj
  exact va_iald B.1 B.2.1 B.2.2.2.2.2.1 hP (pMpriority i) 0 (md_w_Mpriority h) rfl hin hdg kk
theorem is_Mpriority (B : ed_B p s m args meth c cc own nL D ca) (hP : va_P D vwCl (md_w ad ca σ) H) (hD : va_D A (md_w ad ca σ)) (hS : va_S A s.heap H locs) (h : i < 1) (hin : vp_in x 8) (hj : x.toNatClampNeg = j) (eq : σ1 = ed_st σ 6 i j v) (hdg : decode cc pc = .ok (.iastore, 1))
    (kk : ∀ (H1 : Heap) (locs1 : List Loc), va_P D vwCl (md_w ad ca σ1) H1 → va_D A (md_w ad ca σ1) → va_S A s.heap H1 locs1 → W p l e R s m args below meth c H1 locs1 cells slots Q (F0 m (pc + 1) ls rest)) : W p l e R s m args below meth c H locs cells slots Q (F0 m pc ls (.int v :: .int x :: .ref (ad (pMpriority i)) :: rest)) := by
  subst eq
  subst hj
  refine va_iast B.1 B.2.1 B.2.2.2.2.2.1 hP hD hS (pMpriority i) 0 (md_w_Mpriority h) rfl hin hdg (fun H1 locs1 hP1 hD1 hS1 => ?_)
  have q0 := md_w_set (ad := ad) (ca := ca) (σ := σ) (σ2 := ed_st σ 6 i x.toNatClampNeg v) (md_lt_Mpriority h) (md_ct_Mpriority h) (fun z hl hz => md_ct_st hl hz)
  have q1 : cMpriority ad ca (ed_st σ 6 i x.toNatClampNeg v) i = .inl (ca 0, 8, .inl (upd (fun j => σ 6 i j) x.toNatClampNeg v)) := by
    show Sum.inl (ca 0, 8, Sum.inl _) = Sum.inl (ca 0, 8, Sum.inl _)
    congr 3
    refine congrArg Sum.inl ?_
    funext j
    simp [ed_st, upd]
  rw [q1] at q0
  rw [q0] at hP1 hD1
  exact kk H1 locs1 hP1 hD1 hS1
theorem an_Mpriority (B : ed_B p s m args meth c cc own nL D ca) (hP : va_P D vwCl (md_w ad ca σ) H) (h : i < 1) (hdg : decode cc pc = .ok (.arraylength, 1))
    (kk : W p l e R s m args below meth c H locs cells slots Q (F0 m (pc + 1) ls (.int (nI 8) :: rest))) : W p l e R s m args below meth c H locs cells slots Q (F0 m pc ls (.ref (ad (pMpriority i)) :: rest)) :=
  va_alen B.1 B.2.1 B.2.2.2.2.2.1 hP (pMpriority i) 0 (md_w_Mpriority h) rfl rfl hdg kk
theorem il_Mstate (B : ed_B p s m args meth c cc own nL D ca) (hP : va_P D vwCl (md_w ad ca σ) H) (h : i < 1) (hin : vp_in x 8) (hj : x.toNatClampNeg = j) (hdg : decode cc pc = .ok (.iaload, 1))
    (kk : W p l e R s m args below meth c H locs cells slots Q (F0 m (pc + 1) ls (.int (σ 7 i j) :: rest))) : W p l e R s m args below meth c H locs cells slots Q (F0 m pc ls (.int x :: .ref (ad (pMstate i)) :: rest)) := by
  subst hj
  exact va_iald B.1 B.2.1 B.2.2.2.2.2.1 hP (pMstate i) 0 (md_w_Mstate h) rfl hin hdg kk
theorem is_Mstate (B : ed_B p s m args meth c cc own nL D ca) (hP : va_P D vwCl (md_w ad ca σ) H) (hD : va_D A (md_w ad ca σ)) (hS : va_S A s.heap H locs) (h : i < 1) (hin : vp_in x 8) (hj : x.toNatClampNeg = j) (eq : σ1 = ed_st σ 7 i j v) (hdg : decode cc pc = .ok (.iastore, 1))
    (kk : ∀ (H1 : Heap) (locs1 : List Loc), va_P D vwCl (md_w ad ca σ1) H1 → va_D A (md_w ad ca σ1) → va_S A s.heap H1 locs1 → W p l e R s m args below meth c H1 locs1 cells slots Q (F0 m (pc + 1) ls rest)) : W p l e R s m args below meth c H locs cells slots Q (F0 m pc ls (.int v :: .int x :: .ref (ad (pMstate i)) :: rest)) := by
  subst eq
  subst hj
  refine va_iast B.1 B.2.1 B.2.2.2.2.2.1 hP hD hS (pMstate i) 0 (md_w_Mstate h) rfl hin hdg (fun H1 locs1 hP1 hD1 hS1 => ?_)
  have q0 := md_w_set (ad := ad) (ca := ca) (σ := σ) (σ2 := ed_st σ 7 i x.toNatClampNeg v) (md_lt_Mstate h) (md_ct_Mstate h) (fun z hl hz => md_ct_st hl hz)
  have q1 : cMstate ad ca (ed_st σ 7 i x.toNatClampNeg v) i = .inl (ca 0, 8, .inl (upd (fun j => σ 7 i j) x.toNatClampNeg v)) := by
    show Sum.inl (ca 0, 8, Sum.inl _) = Sum.inl (ca 0, 8, Sum.inl _)
    congr 3
    refine congrArg Sum.inl ?_
    funext j
    simp [ed_st, upd]
  rw [q1] at q0
  rw [q0] at hP1 hD1
  exact kk H1 locs1 hP1 hD1 hS1
theorem an_Mstate (B : ed_B p s m args meth c cc own nL D ca) (hP : va_P D vwCl (md_w ad ca σ) H) (h : i < 1) (hdg : decode cc pc = .ok (.arraylength, 1))
    (kk : W p l e R s m args below meth c H locs cells slots Q (F0 m (pc + 1) ls (.int (nI 8) :: rest))) : W p l e R s m args below meth c H locs cells slots Q (F0 m pc ls (.ref (ad (pMstate i)) :: rest)) :=
  va_alen B.1 B.2.1 B.2.2.2.2.2.1 hP (pMstate i) 0 (md_w_Mstate h) rfl rfl hdg kk
theorem il_Mresult (B : ed_B p s m args meth c cc own nL D ca) (hP : va_P D vwCl (md_w ad ca σ) H) (h : i < 1) (hin : vp_in x 8) (hj : x.toNatClampNeg = j) (hdg : decode cc pc = .ok (.iaload, 1))
    (kk : W p l e R s m args below meth c H locs cells slots Q (F0 m (pc + 1) ls (.int (σ 8 i j) :: rest))) : W p l e R s m args below meth c H locs cells slots Q (F0 m pc ls (.int x :: .ref (ad (pMresult i)) :: rest)) := by
  subst hj
  exact va_iald B.1 B.2.1 B.2.2.2.2.2.1 hP (pMresult i) 0 (md_w_Mresult h) rfl hin hdg kk
theorem is_Mresult (B : ed_B p s m args meth c cc own nL D ca) (hP : va_P D vwCl (md_w ad ca σ) H) (hD : va_D A (md_w ad ca σ)) (hS : va_S A s.heap H locs) (h : i < 1) (hin : vp_in x 8) (hj : x.toNatClampNeg = j) (eq : σ1 = ed_st σ 8 i j v) (hdg : decode cc pc = .ok (.iastore, 1))
    (kk : ∀ (H1 : Heap) (locs1 : List Loc), va_P D vwCl (md_w ad ca σ1) H1 → va_D A (md_w ad ca σ1) → va_S A s.heap H1 locs1 → W p l e R s m args below meth c H1 locs1 cells slots Q (F0 m (pc + 1) ls rest)) : W p l e R s m args below meth c H locs cells slots Q (F0 m pc ls (.int v :: .int x :: .ref (ad (pMresult i)) :: rest)) := by
  subst eq
  subst hj
  refine va_iast B.1 B.2.1 B.2.2.2.2.2.1 hP hD hS (pMresult i) 0 (md_w_Mresult h) rfl hin hdg (fun H1 locs1 hP1 hD1 hS1 => ?_)
  have q0 := md_w_set (ad := ad) (ca := ca) (σ := σ) (σ2 := ed_st σ 8 i x.toNatClampNeg v) (md_lt_Mresult h) (md_ct_Mresult h) (fun z hl hz => md_ct_st hl hz)
  have q1 : cMresult ad ca (ed_st σ 8 i x.toNatClampNeg v) i = .inl (ca 0, 8, .inl (upd (fun j => σ 8 i j) x.toNatClampNeg v)) := by
    show Sum.inl (ca 0, 8, Sum.inl _) = Sum.inl (ca 0, 8, Sum.inl _)
    congr 3
    refine congrArg Sum.inl ?_
    funext j
    simp [ed_st, upd]
  rw [q1] at q0
  rw [q0] at hP1 hD1
  exact kk H1 locs1 hP1 hD1 hS1
theorem an_Mresult (B : ed_B p s m args meth c cc own nL D ca) (hP : va_P D vwCl (md_w ad ca σ) H) (h : i < 1) (hdg : decode cc pc = .ok (.arraylength, 1))
    (kk : W p l e R s m args below meth c H locs cells slots Q (F0 m (pc + 1) ls (.int (nI 8) :: rest))) : W p l e R s m args below meth c H locs cells slots Q (F0 m pc ls (.ref (ad (pMresult i)) :: rest)) :=
  va_alen B.1 B.2.1 B.2.2.2.2.2.1 hP (pMresult i) 0 (md_w_Mresult h) rfl rfl hdg kk
theorem il_Mcalls (B : ed_B p s m args meth c cc own nL D ca) (hP : va_P D vwCl (md_w ad ca σ) H) (h : i < 1) (hin : vp_in x 8) (hj : x.toNatClampNeg = j) (hdg : decode cc pc = .ok (.iaload, 1))
    (kk : W p l e R s m args below meth c H locs cells slots Q (F0 m (pc + 1) ls (.int (σ 9 i j) :: rest))) : W p l e R s m args below meth c H locs cells slots Q (F0 m pc ls (.int x :: .ref (ad (pMcalls i)) :: rest)) := by
  subst hj
  exact va_iald B.1 B.2.1 B.2.2.2.2.2.1 hP (pMcalls i) 0 (md_w_Mcalls h) rfl hin hdg kk
theorem is_Mcalls (B : ed_B p s m args meth c cc own nL D ca) (hP : va_P D vwCl (md_w ad ca σ) H) (hD : va_D A (md_w ad ca σ)) (hS : va_S A s.heap H locs) (h : i < 1) (hin : vp_in x 8) (hj : x.toNatClampNeg = j) (eq : σ1 = ed_st σ 9 i j v) (hdg : decode cc pc = .ok (.iastore, 1))
    (kk : ∀ (H1 : Heap) (locs1 : List Loc), va_P D vwCl (md_w ad ca σ1) H1 → va_D A (md_w ad ca σ1) → va_S A s.heap H1 locs1 → W p l e R s m args below meth c H1 locs1 cells slots Q (F0 m (pc + 1) ls rest)) : W p l e R s m args below meth c H locs cells slots Q (F0 m pc ls (.int v :: .int x :: .ref (ad (pMcalls i)) :: rest)) := by
  subst eq
  subst hj
  refine va_iast B.1 B.2.1 B.2.2.2.2.2.1 hP hD hS (pMcalls i) 0 (md_w_Mcalls h) rfl hin hdg (fun H1 locs1 hP1 hD1 hS1 => ?_)
  have q0 := md_w_set (ad := ad) (ca := ca) (σ := σ) (σ2 := ed_st σ 9 i x.toNatClampNeg v) (md_lt_Mcalls h) (md_ct_Mcalls h) (fun z hl hz => md_ct_st hl hz)
  have q1 : cMcalls ad ca (ed_st σ 9 i x.toNatClampNeg v) i = .inl (ca 0, 8, .inl (upd (fun j => σ 9 i j) x.toNatClampNeg v)) := by
    show Sum.inl (ca 0, 8, Sum.inl _) = Sum.inl (ca 0, 8, Sum.inl _)
    congr 3
    refine congrArg Sum.inl ?_
    funext j
    simp [ed_st, upd]
  rw [q1] at q0
  rw [q0] at hP1 hD1
  exact kk H1 locs1 hP1 hD1 hS1
theorem an_Mcalls (B : ed_B p s m args meth c cc own nL D ca) (hP : va_P D vwCl (md_w ad ca σ) H) (h : i < 1) (hdg : decode cc pc = .ok (.arraylength, 1))
    (kk : W p l e R s m args below meth c H locs cells slots Q (F0 m (pc + 1) ls (.int (nI 8) :: rest))) : W p l e R s m args below meth c H locs cells slots Q (F0 m pc ls (.ref (ad (pMcalls i)) :: rest)) :=
  va_alen B.1 B.2.1 B.2.2.2.2.2.1 hP (pMcalls i) 0 (md_w_Mcalls h) rfl rfl hdg kk
theorem il_Mdelivered (B : ed_B p s m args meth c cc own nL D ca) (hP : va_P D vwCl (md_w ad ca σ) H) (h : i < 1) (hin : vp_in x 8) (hj : x.toNatClampNeg = j) (hdg : decode cc pc = .ok (.iaload, 1))
    (kk : W p l e R s m args below meth c H locs cells slots Q (F0 m (pc + 1) ls (.int (σ 10 i j) :: rest))) : W p l e R s m args below meth c H locs cells slots Q (F0 m pc ls (.int x :: .ref (ad (pMdelivered i)) :: rest)) := by
  subst hj
  exact va_iald B.1 B.2.1 B.2.2.2.2.2.1 hP (pMdelivered i) 0 (md_w_Mdelivered h) rfl hin hdg kk
theorem is_Mdelivered (B : ed_B p s m args meth c cc own nL D ca) (hP : va_P D vwCl (md_w ad ca σ) H) (hD : va_D A (md_w ad ca σ)) (hS : va_S A s.heap H locs) (h : i < 1) (hin : vp_in x 8) (hj : x.toNatClampNeg = j) (eq : σ1 = ed_st σ 10 i j v) (hdg : decode cc pc = .ok (.iastore, 1))
    (kk : ∀ (H1 : Heap) (locs1 : List Loc), va_P D vwCl (md_w ad ca σ1) H1 → va_D A (md_w ad ca σ1) → va_S A s.heap H1 locs1 → W p l e R s m args below meth c H1 locs1 cells slots Q (F0 m (pc + 1) ls rest)) : W p l e R s m args below meth c H locs cells slots Q (F0 m pc ls (.int v :: .int x :: .ref (ad (pMdelivered i)) :: rest)) := by
  subst eq
  subst hj
  refine va_iast B.1 B.2.1 B.2.2.2.2.2.1 hP hD hS (pMdelivered i) 0 (md_w_Mdelivered h) rfl hin hdg (fun H1 locs1 hP1 hD1 hS1 => ?_)
  have q0 := md_w_set (ad := ad) (ca := ca) (σ := σ) (σ2 := ed_st σ 10 i x.toNatClampNeg v) (md_lt_Mdelivered h) (md_ct_Mdelivered h) (fun z hl hz => md_ct_st hl hz)
  have q1 : cMdelivered ad ca (ed_st σ 10 i x.toNatClampNeg v) i = .inl (ca 0, 8, .inl (upd (fun j => σ 10 i j) x.toNatClampNeg v)) := by
    show Sum.inl (ca 0, 8, Sum.inl _) = Sum.inl (ca 0, 8, Sum.inl _)
    congr 3
    refine congrArg Sum.inl ?_
    funext j
    simp [ed_st, upd]
  rw [q1] at q0
  rw [q0] at hP1 hD1
  exact kk H1 locs1 hP1 hD1 hS1
theorem an_Mdelivered (B : ed_B p s m args meth c cc own nL D ca) (hP : va_P D vwCl (md_w ad ca σ) H) (h : i < 1) (hdg : decode cc pc = .ok (.arraylength, 1))
    (kk : W p l e R s m args below meth c H locs cells slots Q (F0 m (pc + 1) ls (.int (nI 8) :: rest))) : W p l e R s m args below meth c H locs cells slots Q (F0 m pc ls (.ref (ad (pMdelivered i)) :: rest)) :=
  va_alen B.1 B.2.1 B.2.2.2.2.2.1 hP (pMdelivered i) 0 (md_w_Mdelivered h) rfl rfl hdg kk
theorem il_Mlatest (B : ed_B p s m args meth c cc own nL D ca) (hP : va_P D vwCl (md_w ad ca σ) H) (h : i < 1) (hin : vp_in x 8) (hj : x.toNatClampNeg = j) (hdg : decode cc pc = .ok (.iaload, 1))
    (kk : W p l e R s m args below meth c H locs cells slots Q (F0 m (pc + 1) ls (.int (σ 11 i j) :: rest))) : W p l e R s m args below meth c H locs cells slots Q (F0 m pc ls (.int x :: .ref (ad (pMlatest i)) :: rest)) := by
  subst hj
  exact va_iald B.1 B.2.1 B.2.2.2.2.2.1 hP (pMlatest i) 0 (md_w_Mlatest h) rfl hin hdg kk
theorem is_Mlatest (B : ed_B p s m args meth c cc own nL D ca) (hP : va_P D vwCl (md_w ad ca σ) H) (hD : va_D A (md_w ad ca σ)) (hS : va_S A s.heap H locs) (h : i < 1) (hin : vp_in x 8) (hj : x.toNatClampNeg = j) (eq : σ1 = ed_st σ 11 i j v) (hdg : decode cc pc = .ok (.iastore, 1))
    (kk : ∀ (H1 : Heap) (locs1 : List Loc), va_P D vwCl (md_w ad ca σ1) H1 → va_D A (md_w ad ca σ1) → va_S A s.heap H1 locs1 → W p l e R s m args below meth c H1 locs1 cells slots Q (F0 m (pc + 1) ls rest)) : W p l e R s m args below meth c H locs cells slots Q (F0 m pc ls (.int v :: .int x :: .ref (ad (pMlatest i)) :: rest)) := by
  subst eq
  subst hj
  refine va_iast B.1 B.2.1 B.2.2.2.2.2.1 hP hD hS (pMlatest i) 0 (md_w_Mlatest h) rfl hin hdg (fun H1 locs1 hP1 hD1 hS1 => ?_)
  have q0 := md_w_set (ad := ad) (ca := ca) (σ := σ) (σ2 := ed_st σ 11 i x.toNatClampNeg v) (md_lt_Mlatest h) (md_ct_Mlatest h) (fun z hl hz => md_ct_st hl hz)
  have q1 : cMlatest ad ca (ed_st σ 11 i x.toNatClampNeg v) i = .inl (ca 0, 8, .inl (upd (fun j => σ 11 i j) x.toNatClampNeg v)) := by
    show Sum.inl (ca 0, 8, Sum.inl _) = Sum.inl (ca 0, 8, Sum.inl _)
    congr 3
    refine congrArg Sum.inl ?_
    funext j
    simp [ed_st, upd]
  rw [q1] at q0
  rw [q0] at hP1 hD1
  exact kk H1 locs1 hP1 hD1 hS1
theorem an_Mlatest (B : ed_B p s m args meth c cc own nL D ca) (hP : va_P D vwCl (md_w ad ca σ) H) (h : i < 1) (hdg : decode cc pc = .ok (.arraylength, 1))
    (kk : W p l e R s m args below meth c H locs cells slots Q (F0 m (pc + 1) ls (.int (nI 8) :: rest))) : W p l e R s m args below meth c H locs cells slots Q (F0 m pc ls (.ref (ad (pMlatest i)) :: rest)) :=
  va_alen B.1 B.2.1 B.2.2.2.2.2.1 hP (pMlatest i) 0 (md_w_Mlatest h) rfl rfl hdg kk
theorem il_Mused (B : ed_B p s m args meth c cc own nL D ca) (hP : va_P D vwCl (md_w ad ca σ) H) (h : i < 1) (hin : vp_in x 8) (hj : x.toNatClampNeg = j) (hdg : decode cc pc = .ok (.iaload, 1))
    (kk : W p l e R s m args below meth c H locs cells slots Q (F0 m (pc + 1) ls (.int (σ 12 i j) :: rest))) : W p l e R s m args below meth c H locs cells slots Q (F0 m pc ls (.int x :: .ref (ad (pMused i)) :: rest)) := by
  subst hj
  exact va_iald B.1 B.2.1 B.2.2.2.2.2.1 hP (pMused i) 0 (md_w_Mused h) rfl hin hdg kk
theorem is_Mused (B : ed_B p s m args meth c cc own nL D ca) (hP : va_P D vwCl (md_w ad ca σ) H) (hD : va_D A (md_w ad ca σ)) (hS : va_S A s.heap H locs) (h : i < 1) (hin : vp_in x 8) (hj : x.toNatClampNeg = j) (eq : σ1 = ed_st σ 12 i j v) (hdg : decode cc pc = .ok (.iastore, 1))
    (kk : ∀ (H1 : Heap) (locs1 : List Loc), va_P D vwCl (md_w ad ca σ1) H1 → va_D A (md_w ad ca σ1) → va_S A s.heap H1 locs1 → W p l e R s m args below meth c H1 locs1 cells slots Q (F0 m (pc + 1) ls rest)) : W p l e R s m args below meth c H locs cells slots Q (F0 m pc ls (.int v :: .int x :: .ref (ad (pMused i)) :: rest)) := by
  subst eq
  subst hj
  refine va_iast B.1 B.2.1 B.2.2.2.2.2.1 hP hD hS (pMused i) 0 (md_w_Mused h) rfl hin hdg (fun H1 locs1 hP1 hD1 hS1 => ?_)
  have q0 := md_w_set (ad := ad) (ca := ca) (σ := σ) (σ2 := ed_st σ 12 i x.toNatClampNeg v) (md_lt_Mused h) (md_ct_Mused h) (fun z hl hz => md_ct_st hl hz)
  have q1 : cMused ad ca (ed_st σ 12 i x.toNatClampNeg v) i = .inl (ca 0, 8, .inl (upd (fun j => σ 12 i j) x.toNatClampNeg v)) := by
    show Sum.inl (ca 0, 8, Sum.inl _) = Sum.inl (ca 0, 8, Sum.inl _)
    congr 3
    refine congrArg Sum.inl ?_
    funext j
    simp [ed_st, upd]
  rw [q1] at q0
  rw [q0] at hP1 hD1
  exact kk H1 locs1 hP1 hD1 hS1
theorem an_Mused (B : ed_B p s m args meth c cc own nL D ca) (hP : va_P D vwCl (md_w ad ca σ) H) (h : i < 1) (hdg : decode cc pc = .ok (.arraylength, 1))
    (kk : W p l e R s m args below meth c H locs cells slots Q (F0 m (pc + 1) ls (.int (nI 8) :: rest))) : W p l e R s m args below meth c H locs cells slots Q (F0 m pc ls (.ref (ad (pMused i)) :: rest)) :=
  va_alen B.1 B.2.1 B.2.2.2.2.2.1 hP (pMused i) 0 (md_w_Mused h) rfl rfl hdg kk
theorem il_Mdue (B : ed_B p s m args meth c cc own nL D ca) (hP : va_P D vwCl (md_w ad ca σ) H) (h : i < 1) (hin : vp_in x 8) (hj : x.toNatClampNeg = j) (hdg : decode cc pc = .ok (.iaload, 1))
    (kk : W p l e R s m args below meth c H locs cells slots Q (F0 m (pc + 1) ls (.int (σ 13 i j) :: rest))) : W p l e R s m args below meth c H locs cells slots Q (F0 m pc ls (.int x :: .ref (ad (pMdue i)) :: rest)) := by
  subst hj
  exact va_iald B.1 B.2.1 B.2.2.2.2.2.1 hP (pMdue i) 0 (md_w_Mdue h) rfl hin hdg kk
theorem is_Mdue (B : ed_B p s m args meth c cc own nL D ca) (hP : va_P D vwCl (md_w ad ca σ) H) (hD : va_D A (md_w ad ca σ)) (hS : va_S A s.heap H locs) (h : i < 1) (hin : vp_in x 8) (hj : x.toNatClampNeg = j) (eq : σ1 = ed_st σ 13 i j v) (hdg : decode cc pc = .ok (.iastore, 1))
    (kk : ∀ (H1 : Heap) (locs1 : List Loc), va_P D vwCl (md_w ad ca σ1) H1 → va_D A (md_w ad ca σ1) → va_S A s.heap H1 locs1 → W p l e R s m args below meth c H1 locs1 cells slots Q (F0 m (pc + 1) ls rest)) : W p l e R s m args below meth c H locs cells slots Q (F0 m pc ls (.int v :: .int x :: .ref (ad (pMdue i)) :: rest)) := by
  subst eq
  subst hj
  refine va_iast B.1 B.2.1 B.2.2.2.2.2.1 hP hD hS (pMdue i) 0 (md_w_Mdue h) rfl hin hdg (fun H1 locs1 hP1 hD1 hS1 => ?_)
  have q0 := md_w_set (ad := ad) (ca := ca) (σ := σ) (σ2 := ed_st σ 13 i x.toNatClampNeg v) (md_lt_Mdue h) (md_ct_Mdue h) (fun z hl hz => md_ct_st hl hz)
  have q1 : cMdue ad ca (ed_st σ 13 i x.toNatClampNeg v) i = .inl (ca 0, 8, .inl (upd (fun j => σ 13 i j) x.toNatClampNeg v)) := by
    show Sum.inl (ca 0, 8, Sum.inl _) = Sum.inl (ca 0, 8, Sum.inl _)
    congr 3
    refine congrArg Sum.inl ?_
    funext j
    simp [ed_st, upd]
  rw [q1] at q0
  rw [q0] at hP1 hD1
  exact kk H1 locs1 hP1 hD1 hS1
theorem an_Mdue (B : ed_B p s m args meth c cc own nL D ca) (hP : va_P D vwCl (md_w ad ca σ) H) (h : i < 1) (hdg : decode cc pc = .ok (.arraylength, 1))
    (kk : W p l e R s m args below meth c H locs cells slots Q (F0 m (pc + 1) ls (.int (nI 8) :: rest))) : W p l e R s m args below meth c H locs cells slots Q (F0 m pc ls (.ref (ad (pMdue i)) :: rest)) :=
  va_alen B.1 B.2.1 B.2.2.2.2.2.1 hP (pMdue i) 0 (md_w_Mdue h) rfl rfl hdg kk
theorem il_Mhow (B : ed_B p s m args meth c cc own nL D ca) (hP : va_P D vwCl (md_w ad ca σ) H) (h : i < 1) (hin : vp_in x 8) (hj : x.toNatClampNeg = j) (hdg : decode cc pc = .ok (.iaload, 1))
    (kk : W p l e R s m args below meth c H locs cells slots Q (F0 m (pc + 1) ls (.int (σ 14 i j) :: rest))) : W p l e R s m args below meth c H locs cells slots Q (F0 m pc ls (.int x :: .ref (ad (pMhow i)) :: rest)) := by
  subst hj
  exact va_iald B.1 B.2.1 B.2.2.2.2.2.1 hP (pMhow i) 0 (md_w_Mhow h) rfl hin hdg kk
theorem is_Mhow (B : ed_B p s m args meth c cc own nL D ca) (hP : va_P D vwCl (md_w ad ca σ) H) (hD : va_D A (md_w ad ca σ)) (hS : va_S A s.heap H locs) (h : i < 1) (hin : vp_in x 8) (hj : x.toNatClampNeg = j) (eq : σ1 = ed_st σ 14 i j v) (hdg : decode cc pc = .ok (.iastore, 1))
    (kk : ∀ (H1 : Heap) (locs1 : List Loc), va_P D vwCl (md_w ad ca σ1) H1 → va_D A (md_w ad ca σ1) → va_S A s.heap H1 locs1 → W p l e R s m args below meth c H1 locs1 cells slots Q (F0 m (pc + 1) ls rest)) : W p l e R s m args below meth c H locs cells slots Q (F0 m pc ls (.int v :: .int x :: .ref (ad (pMhow i)) :: rest)) := by
  subst eq
  subst hj
  refine va_iast B.1 B.2.1 B.2.2.2.2.2.1 hP hD hS (pMhow i) 0 (md_w_Mhow h) rfl hin hdg (fun H1 locs1 hP1 hD1 hS1 => ?_)
  have q0 := md_w_set (ad := ad) (ca := ca) (σ := σ) (σ2 := ed_st σ 14 i x.toNatClampNeg v) (md_lt_Mhow h) (md_ct_Mhow h) (fun z hl hz => md_ct_st hl hz)
  have q1 : cMhow ad ca (ed_st σ 14 i x.toNatClampNeg v) i = .inl (ca 0, 8, .inl (upd (fun j => σ 14 i j) x.toNatClampNeg v)) := by
    show Sum.inl (ca 0, 8, Sum.inl _) = Sum.inl (ca 0, 8, Sum.inl _)
    congr 3
    refine congrArg Sum.inl ?_
    funext j
    simp [ed_st, upd]
  rw [q1] at q0
  rw [q0] at hP1 hD1
  exact kk H1 locs1 hP1 hD1 hS1
theorem an_Mhow (B : ed_B p s m args meth c cc own nL D ca) (hP : va_P D vwCl (md_w ad ca σ) H) (h : i < 1) (hdg : decode cc pc = .ok (.arraylength, 1))
    (kk : W p l e R s m args below meth c H locs cells slots Q (F0 m (pc + 1) ls (.int (nI 8) :: rest))) : W p l e R s m args below meth c H locs cells slots Q (F0 m pc ls (.ref (ad (pMhow i)) :: rest)) :=
  va_alen B.1 B.2.1 B.2.2.2.2.2.1 hP (pMhow i) 0 (md_w_Mhow h) rfl rfl hdg kk
theorem il_Mbegan (B : ed_B p s m args meth c cc own nL D ca) (hP : va_P D vwCl (md_w ad ca σ) H) (h : i < 1) (hin : vp_in x 8) (hj : x.toNatClampNeg = j) (hdg : decode cc pc = .ok (.iaload, 1))
    (kk : W p l e R s m args below meth c H locs cells slots Q (F0 m (pc + 1) ls (.int (σ 15 i j) :: rest))) : W p l e R s m args below meth c H locs cells slots Q (F0 m pc ls (.int x :: .ref (ad (pMbegan i)) :: rest)) := by
  subst hj
  exact va_iald B.1 B.2.1 B.2.2.2.2.2.1 hP (pMbegan i) 0 (md_w_Mbegan h) rfl hin hdg kk
theorem is_Mbegan (B : ed_B p s m args meth c cc own nL D ca) (hP : va_P D vwCl (md_w ad ca σ) H) (hD : va_D A (md_w ad ca σ)) (hS : va_S A s.heap H locs) (h : i < 1) (hin : vp_in x 8) (hj : x.toNatClampNeg = j) (eq : σ1 = ed_st σ 15 i j v) (hdg : decode cc pc = .ok (.iastore, 1))
    (kk : ∀ (H1 : Heap) (locs1 : List Loc), va_P D vwCl (md_w ad ca σ1) H1 → va_D A (md_w ad ca σ1) → va_S A s.heap H1 locs1 → W p l e R s m args below meth c H1 locs1 cells slots Q (F0 m (pc + 1) ls rest)) : W p l e R s m args below meth c H locs cells slots Q (F0 m pc ls (.int v :: .int x :: .ref (ad (pMbegan i)) :: rest)) := by
  subst eq
  subst hj
  refine va_iast B.1 B.2.1 B.2.2.2.2.2.1 hP hD hS (pMbegan i) 0 (md_w_Mbegan h) rfl hin hdg (fun H1 locs1 hP1 hD1 hS1 => ?_)
  have q0 := md_w_set (ad := ad) (ca := ca) (σ := σ) (σ2 := ed_st σ 15 i x.toNatClampNeg v) (md_lt_Mbegan h) (md_ct_Mbegan h) (fun z hl hz => md_ct_st hl hz)
  have q1 : cMbegan ad ca (ed_st σ 15 i x.toNatClampNeg v) i = .inl (ca 0, 8, .inl (upd (fun j => σ 15 i j) x.toNatClampNeg v)) := by
    show Sum.inl (ca 0, 8, Sum.inl _) = Sum.inl (ca 0, 8, Sum.inl _)
    congr 3
    refine congrArg Sum.inl ?_
    funext j
    simp [ed_st, upd]
  rw [q1] at q0
  rw [q0] at hP1 hD1
  exact kk H1 locs1 hP1 hD1 hS1
theorem an_Mbegan (B : ed_B p s m args meth c cc own nL D ca) (hP : va_P D vwCl (md_w ad ca σ) H) (h : i < 1) (hdg : decode cc pc = .ok (.arraylength, 1))
    (kk : W p l e R s m args below meth c H locs cells slots Q (F0 m (pc + 1) ls (.int (nI 8) :: rest))) : W p l e R s m args below meth c H locs cells slots Q (F0 m pc ls (.ref (ad (pMbegan i)) :: rest)) :=
  va_alen B.1 B.2.1 B.2.2.2.2.2.1 hP (pMbegan i) 0 (md_w_Mbegan h) rfl rfl hdg kk
theorem il_Mstands (B : ed_B p s m args meth c cc own nL D ca) (hP : va_P D vwCl (md_w ad ca σ) H) (h : i < 1) (hin : vp_in x 8) (hj : x.toNatClampNeg = j) (hdg : decode cc pc = .ok (.iaload, 1))
    (kk : W p l e R s m args below meth c H locs cells slots Q (F0 m (pc + 1) ls (.int (σ 16 i j) :: rest))) : W p l e R s m args below meth c H locs cells slots Q (F0 m pc ls (.int x :: .ref (ad (pMstands i)) :: rest)) := by
  subst hj
  exact va_iald B.1 B.2.1 B.2.2.2.2.2.1 hP (pMstands i) 0 (md_w_Mstands h) rfl hin hdg kk
theorem is_Mstands (B : ed_B p s m args meth c cc own nL D ca) (hP : va_P D vwCl (md_w ad ca σ) H) (hD : va_D A (md_w ad ca σ)) (hS : va_S A s.heap H locs) (h : i < 1) (hin : vp_in x 8) (hj : x.toNatClampNeg = j) (eq : σ1 = ed_st σ 16 i j v) (hdg : decode cc pc = .ok (.iastore, 1))
    (kk : ∀ (H1 : Heap) (locs1 : List Loc), va_P D vwCl (md_w ad ca σ1) H1 → va_D A (md_w ad ca σ1) → va_S A s.heap H1 locs1 → W p l e R s m args below meth c H1 locs1 cells slots Q (F0 m (pc + 1) ls rest)) : W p l e R s m args below meth c H locs cells slots Q (F0 m pc ls (.int v :: .int x :: .ref (ad (pMstands i)) :: rest)) := by
  subst eq
  subst hj
  refine va_iast B.1 B.2.1 B.2.2.2.2.2.1 hP hD hS (pMstands i) 0 (md_w_Mstands h) rfl hin hdg (fun H1 locs1 hP1 hD1 hS1 => ?_)
  have q0 := md_w_set (ad := ad) (ca := ca) (σ := σ) (σ2 := ed_st σ 16 i x.toNatClampNeg v) (md_lt_Mstands h) (md_ct_Mstands h) (fun z hl hz => md_ct_st hl hz)
  have q1 : cMstands ad ca (ed_st σ 16 i x.toNatClampNeg v) i = .inl (ca 0, 8, .inl (upd (fun j => σ 16 i j) x.toNatClampNeg v)) := by
    show Sum.inl (ca 0, 8, Sum.inl _) = Sum.inl (ca 0, 8, Sum.inl _)
    congr 3
    refine congrArg Sum.inl ?_
    funext j
    simp [ed_st, upd]
  rw [q1] at q0
  rw [q0] at hP1 hD1
  exact kk H1 locs1 hP1 hD1 hS1
theorem an_Mstands (B : ed_B p s m args meth c cc own nL D ca) (hP : va_P D vwCl (md_w ad ca σ) H) (h : i < 1) (hdg : decode cc pc = .ok (.arraylength, 1))
    (kk : W p l e R s m args below meth c H locs cells slots Q (F0 m (pc + 1) ls (.int (nI 8) :: rest))) : W p l e R s m args below meth c H locs cells slots Q (F0 m pc ls (.ref (ad (pMstands i)) :: rest)) :=
  va_alen B.1 B.2.1 B.2.2.2.2.2.1 hP (pMstands i) 0 (md_w_Mstands h) rfl rfl hdg kk
theorem il_Mplace (B : ed_B p s m args meth c cc own nL D ca) (hP : va_P D vwCl (md_w ad ca σ) H) (h : i < 1) (hin : vp_in x 24) (hj : x.toNatClampNeg = j) (hdg : decode cc pc = .ok (.iaload, 1))
    (kk : W p l e R s m args below meth c H locs cells slots Q (F0 m (pc + 1) ls (.int (σ 17 i j) :: rest))) : W p l e R s m args below meth c H locs cells slots Q (F0 m pc ls (.int x :: .ref (ad (pMplace i)) :: rest)) := by
  subst hj
  exact va_iald B.1 B.2.1 B.2.2.2.2.2.1 hP (pMplace i) 0 (md_w_Mplace h) rfl hin hdg kk
theorem is_Mplace (B : ed_B p s m args meth c cc own nL D ca) (hP : va_P D vwCl (md_w ad ca σ) H) (hD : va_D A (md_w ad ca σ)) (hS : va_S A s.heap H locs) (h : i < 1) (hin : vp_in x 24) (hj : x.toNatClampNeg = j) (eq : σ1 = ed_st σ 17 i j v) (hdg : decode cc pc = .ok (.iastore, 1))
    (kk : ∀ (H1 : Heap) (locs1 : List Loc), va_P D vwCl (md_w ad ca σ1) H1 → va_D A (md_w ad ca σ1) → va_S A s.heap H1 locs1 → W p l e R s m args below meth c H1 locs1 cells slots Q (F0 m (pc + 1) ls rest)) : W p l e R s m args below meth c H locs cells slots Q (F0 m pc ls (.int v :: .int x :: .ref (ad (pMplace i)) :: rest)) := by
  subst eq
  subst hj
  refine va_iast B.1 B.2.1 B.2.2.2.2.2.1 hP hD hS (pMplace i) 0 (md_w_Mplace h) rfl hin hdg (fun H1 locs1 hP1 hD1 hS1 => ?_)
  have q0 := md_w_set (ad := ad) (ca := ca) (σ := σ) (σ2 := ed_st σ 17 i x.toNatClampNeg v) (md_lt_Mplace h) (md_ct_Mplace h) (fun z hl hz => md_ct_st hl hz)
  have q1 : cMplace ad ca (ed_st σ 17 i x.toNatClampNeg v) i = .inl (ca 0, 24, .inl (upd (fun j => σ 17 i j) x.toNatClampNeg v)) := by
    show Sum.inl (ca 0, 24, Sum.inl _) = Sum.inl (ca 0, 24, Sum.inl _)
    congr 3
    refine congrArg Sum.inl ?_
    funext j
    simp [ed_st, upd]
  rw [q1] at q0
  rw [q0] at hP1 hD1
  exact kk H1 locs1 hP1 hD1 hS1
theorem an_Mplace (B : ed_B p s m args meth c cc own nL D ca) (hP : va_P D vwCl (md_w ad ca σ) H) (h : i < 1) (hdg : decode cc pc = .ok (.arraylength, 1))
    (kk : W p l e R s m args below meth c H locs cells slots Q (F0 m (pc + 1) ls (.int (nI 24) :: rest))) : W p l e R s m args below meth c H locs cells slots Q (F0 m pc ls (.ref (ad (pMplace i)) :: rest)) :=
  va_alen B.1 B.2.1 B.2.2.2.2.2.1 hP (pMplace i) 0 (md_w_Mplace h) rfl rfl hdg kk
theorem il_Mrow (B : ed_B p s m args meth c cc own nL D ca) (hP : va_P D vwCl (md_w ad ca σ) H) (h : i < 1) (hin : vp_in x 32) (hj : x.toNatClampNeg = j) (hdg : decode cc pc = .ok (.iaload, 1))
    (kk : W p l e R s m args below meth c H locs cells slots Q (F0 m (pc + 1) ls (.int (σ 18 i j) :: rest))) : W p l e R s m args below meth c H locs cells slots Q (F0 m pc ls (.int x :: .ref (ad (pMrow i)) :: rest)) := by
  subst hj
  exact va_iald B.1 B.2.1 B.2.2.2.2.2.1 hP (pMrow i) 0 (md_w_Mrow h) rfl hin hdg kk
theorem is_Mrow (B : ed_B p s m args meth c cc own nL D ca) (hP : va_P D vwCl (md_w ad ca σ) H) (hD : va_D A (md_w ad ca σ)) (hS : va_S A s.heap H locs) (h : i < 1) (hin : vp_in x 32) (hj : x.toNatClampNeg = j) (eq : σ1 = ed_st σ 18 i j v) (hdg : decode cc pc = .ok (.iastore, 1))
    (kk : ∀ (H1 : Heap) (locs1 : List Loc), va_P D vwCl (md_w ad ca σ1) H1 → va_D A (md_w ad ca σ1) → va_S A s.heap H1 locs1 → W p l e R s m args below meth c H1 locs1 cells slots Q (F0 m (pc + 1) ls rest)) : W p l e R s m args below meth c H locs cells slots Q (F0 m pc ls (.int v :: .int x :: .ref (ad (pMrow i)) :: rest)) := by
  subst eq
  subst hj
  refine va_iast B.1 B.2.1 B.2.2.2.2.2.1 hP hD hS (pMrow i) 0 (md_w_Mrow h) rfl hin hdg (fun H1 locs1 hP1 hD1 hS1 => ?_)
  have q0 := md_w_set (ad := ad) (ca := ca) (σ := σ) (σ2 := ed_st σ 18 i x.toNatClampNeg v) (md_lt_Mrow h) (md_ct_Mrow h) (fun z hl hz => md_ct_st hl hz)
  have q1 : cMrow ad ca (ed_st σ 18 i x.toNatClampNeg v) i = .inl (ca 0, 32, .inl (upd (fun j => σ 18 i j) x.toNatClampNeg v)) := by
    show Sum.inl (ca 0, 32, Sum.inl _) = Sum.inl (ca 0, 32, Sum.inl _)
    congr 3
    refine congrArg Sum.inl ?_
    funext j
    simp [ed_st, upd]
  rw [q1] at q0
  rw [q0] at hP1 hD1
  exact kk H1 locs1 hP1 hD1 hS1
theorem an_Mrow (B : ed_B p s m args meth c cc own nL D ca) (hP : va_P D vwCl (md_w ad ca σ) H) (h : i < 1) (hdg : decode cc pc = .ok (.arraylength, 1))
    (kk : W p l e R s m args below meth c H locs cells slots Q (F0 m (pc + 1) ls (.int (nI 32) :: rest))) : W p l e R s m args below meth c H locs cells slots Q (F0 m pc ls (.ref (ad (pMrow i)) :: rest)) :=
  va_alen B.1 B.2.1 B.2.2.2.2.2.1 hP (pMrow i) 0 (md_w_Mrow h) rfl rfl hdg kk
theorem il_Mthere (B : ed_B p s m args meth c cc own nL D ca) (hP : va_P D vwCl (md_w ad ca σ) H) (h : i < 1) (hin : vp_in x 16) (hj : x.toNatClampNeg = j) (hdg : decode cc pc = .ok (.baload, 1))
    (kk : W p l e R s m args below meth c H locs cells slots Q (F0 m (pc + 1) ls (.int (σ 19 i j) :: rest))) : W p l e R s m args below meth c H locs cells slots Q (F0 m pc ls (.int x :: .ref (ad (pMthere i)) :: rest)) := by
  subst hj
  exact va_zald B.1 B.2.1 B.2.2.2.2.2.1 hP (pMthere i) 6 (md_w_Mthere h) rfl hin hdg kk
theorem is_Mthere (B : ed_B p s m args meth c cc own nL D ca) (hP : va_P D vwCl (md_w ad ca σ) H) (hD : va_D A (md_w ad ca σ)) (hS : va_S A s.heap H locs) (h : i < 1) (hin : vp_in x 16) (hj : x.toNatClampNeg = j) (z : v = 0 ∨ v = 1) (eq : σ1 = ed_st σ 19 i j v) (hdg : decode cc pc = .ok (.bastore, 1))
    (kk : ∀ (H1 : Heap) (locs1 : List Loc), va_P D vwCl (md_w ad ca σ1) H1 → va_D A (md_w ad ca σ1) → va_S A s.heap H1 locs1 → W p l e R s m args below meth c H1 locs1 cells slots Q (F0 m (pc + 1) ls rest)) : W p l e R s m args below meth c H locs cells slots Q (F0 m pc ls (.int v :: .int x :: .ref (ad (pMthere i)) :: rest)) := by
  subst eq
  subst hj
  refine va_zast B.1 B.2.1 B.2.2.2.2.2.1 hP hD hS (pMthere i) 6 (md_w_Mthere h) rfl hin hdg (fun H1 locs1 hP1 hD1 hS1 => ?_)
  have hz : vp_nar .boolean v = v := by rcases z with rfl | rfl <;> rfl
  rw [hz] at hP1 hD1
  have q0 := md_w_set (ad := ad) (ca := ca) (σ := σ) (σ2 := ed_st σ 19 i x.toNatClampNeg v) (md_lt_Mthere h) (md_ct_Mthere h) (fun z hl hz => md_ct_st hl hz)
  have q1 : cMthere ad ca (ed_st σ 19 i x.toNatClampNeg v) i = .inl (ca 6, 16, .inl (upd (fun j => σ 19 i j) x.toNatClampNeg v)) := by
    show Sum.inl (ca 6, 16, Sum.inl _) = Sum.inl (ca 6, 16, Sum.inl _)
    congr 3
    refine congrArg Sum.inl ?_
    funext j
    simp [ed_st, upd]
  rw [q1] at q0
  rw [q0] at hP1 hD1
  exact kk H1 locs1 hP1 hD1 hS1
theorem an_Mthere (B : ed_B p s m args meth c cc own nL D ca) (hP : va_P D vwCl (md_w ad ca σ) H) (h : i < 1) (hdg : decode cc pc = .ok (.arraylength, 1))
    (kk : W p l e R s m args below meth c H locs cells slots Q (F0 m (pc + 1) ls (.int (nI 16) :: rest))) : W p l e R s m args below meth c H locs cells slots Q (F0 m pc ls (.ref (ad (pMthere i)) :: rest)) :=
  va_alen B.1 B.2.1 B.2.2.2.2.2.1 hP (pMthere i) 6 (md_w_Mthere h) rfl rfl hdg kk
theorem il_MisSet (B : ed_B p s m args meth c cc own nL D ca) (hP : va_P D vwCl (md_w ad ca σ) H) (h : i < 1) (hin : vp_in x 16) (hj : x.toNatClampNeg = j) (hdg : decode cc pc = .ok (.baload, 1))
    (kk : W p l e R s m args below meth c H locs cells slots Q (F0 m (pc + 1) ls (.int (σ 20 i j) :: rest))) : W p l e R s m args below meth c H locs cells slots Q (F0 m pc ls (.int x :: .ref (ad (pMisSet i)) :: rest)) := by
  subst hj
  exact va_zald B.1 B.2.1 B.2.2.2.2.2.1 hP (pMisSet i) 6 (md_w_MisSet h) rfl hin hdg kk
theorem is_MisSet (B : ed_B p s m args meth c cc own nL D ca) (hP : va_P D vwCl (md_w ad ca σ) H) (hD : va_D A (md_w ad ca σ)) (hS : va_S A s.heap H locs) (h : i < 1) (hin : vp_in x 16) (hj : x.toNatClampNeg = j) (z : v = 0 ∨ v = 1) (eq : σ1 = ed_st σ 20 i j v) (hdg : decode cc pc = .ok (.bastore, 1))
    (kk : ∀ (H1 : Heap) (locs1 : List Loc), va_P D vwCl (md_w ad ca σ1) H1 → va_D A (md_w ad ca σ1) → va_S A s.heap H1 locs1 → W p l e R s m args below meth c H1 locs1 cells slots Q (F0 m (pc + 1) ls rest)) : W p l e R s m args below meth c H locs cells slots Q (F0 m pc ls (.int v :: .int x :: .ref (ad (pMisSet i)) :: rest)) := by
  subst eq
  subst hj
  refine va_zast B.1 B.2.1 B.2.2.2.2.2.1 hP hD hS (pMisSet i) 6 (md_w_MisSet h) rfl hin hdg (fun H1 locs1 hP1 hD1 hS1 => ?_)
  have hz : vp_nar .boolean v = v := by rcases z with rfl | rfl <;> rfl
  rw [hz] at hP1 hD1
  have q0 := md_w_set (ad := ad) (ca := ca) (σ := σ) (σ2 := ed_st σ 20 i x.toNatClampNeg v) (md_lt_MisSet h) (md_ct_MisSet h) (fun z hl hz => md_ct_st hl hz)
  have q1 : cMisSet ad ca (ed_st σ 20 i x.toNatClampNeg v) i = .inl (ca 6, 16, .inl (upd (fun j => σ 20 i j) x.toNatClampNeg v)) := by
    show Sum.inl (ca 6, 16, Sum.inl _) = Sum.inl (ca 6, 16, Sum.inl _)
    congr 3
    refine congrArg Sum.inl ?_
    funext j
    simp [ed_st, upd]
  rw [q1] at q0
  rw [q0] at hP1 hD1
  exact kk H1 locs1 hP1 hD1 hS1
theorem an_MisSet (B : ed_B p s m args meth c cc own nL D ca) (hP : va_P D vwCl (md_w ad ca σ) H) (h : i < 1) (hdg : decode cc pc = .ok (.arraylength, 1))
    (kk : W p l e R s m args below meth c H locs cells slots Q (F0 m (pc + 1) ls (.int (nI 16) :: rest))) : W p l e R s m args below meth c H locs cells slots Q (F0 m pc ls (.ref (ad (pMisSet i)) :: rest)) :=
  va_alen B.1 B.2.1 B.2.2.2.2.2.1 hP (pMisSet i) 6 (md_w_MisSet h) rfl rfl hdg kk
theorem il_Mabandoned (B : ed_B p s m args meth c cc own nL D ca) (hP : va_P D vwCl (md_w ad ca σ) H) (h : i < 1) (hin : vp_in x 16) (hj : x.toNatClampNeg = j) (hdg : decode cc pc = .ok (.baload, 1))
    (kk : W p l e R s m args below meth c H locs cells slots Q (F0 m (pc + 1) ls (.int (σ 21 i j) :: rest))) : W p l e R s m args below meth c H locs cells slots Q (F0 m pc ls (.int x :: .ref (ad (pMabandoned i)) :: rest)) := by
  subst hj
  exact va_zald B.1 B.2.1 B.2.2.2.2.2.1 hP (pMabandoned i) 6 (md_w_Mabandoned h) rfl hin hdg kk
theorem is_Mabandoned (B : ed_B p s m args meth c cc own nL D ca) (hP : va_P D vwCl (md_w ad ca σ) H) (hD : va_D A (md_w ad ca σ)) (hS : va_S A s.heap H locs) (h : i < 1) (hin : vp_in x 16) (hj : x.toNatClampNeg = j) (z : v = 0 ∨ v = 1) (eq : σ1 = ed_st σ 21 i j v) (hdg : decode cc pc = .ok (.bastore, 1))
    (kk : ∀ (H1 : Heap) (locs1 : List Loc), va_P D vwCl (md_w ad ca σ1) H1 → va_D A (md_w ad ca σ1) → va_S A s.heap H1 locs1 → W p l e R s m args below meth c H1 locs1 cells slots Q (F0 m (pc + 1) ls rest)) : W p l e R s m args below meth c H locs cells slots Q (F0 m pc ls (.int v :: .int x :: .ref (ad (pMabandoned i)) :: rest)) := by
  subst eq
  subst hj
  refine va_zast B.1 B.2.1 B.2.2.2.2.2.1 hP hD hS (pMabandoned i) 6 (md_w_Mabandoned h) rfl hin hdg (fun H1 locs1 hP1 hD1 hS1 => ?_)
  have hz : vp_nar .boolean v = v := by rcases z with rfl | rfl <;> rfl
  rw [hz] at hP1 hD1
  have q0 := md_w_set (ad := ad) (ca := ca) (σ := σ) (σ2 := ed_st σ 21 i x.toNatClampNeg v) (md_lt_Mabandoned h) (md_ct_Mabandoned h) (fun z hl hz => md_ct_st hl hz)
  have q1 : cMabandoned ad ca (ed_st σ 21 i x.toNatClampNeg v) i = .inl (ca 6, 16, .inl (upd (fun j => σ 21 i j) x.toNatClampNeg v)) := by
    show Sum.inl (ca 6, 16, Sum.inl _) = Sum.inl (ca 6, 16, Sum.inl _)
    congr 3
    refine congrArg Sum.inl ?_
    funext j
    simp [ed_st, upd]
  rw [q1] at q0
  rw [q0] at hP1 hD1
  exact kk H1 locs1 hP1 hD1 hS1
theorem an_Mabandoned (B : ed_B p s m args meth c cc own nL D ca) (hP : va_P D vwCl (md_w ad ca σ) H) (h : i < 1) (hdg : decode cc pc = .ok (.arraylength, 1))
    (kk : W p l e R s m args below meth c H locs cells slots Q (F0 m (pc + 1) ls (.int (nI 16) :: rest))) : W p l e R s m args below meth c H locs cells slots Q (F0 m pc ls (.ref (ad (pMabandoned i)) :: rest)) :=
  va_alen B.1 B.2.1 B.2.2.2.2.2.1 hP (pMabandoned i) 6 (md_w_Mabandoned h) rfl rfl hdg kk
theorem il_Mtype (B : ed_B p s m args meth c cc own nL D ca) (hP : va_P D vwCl (md_w ad ca σ) H) (h : i < 1) (hin : vp_in x 16) (hj : x.toNatClampNeg = j) (hdg : decode cc pc = .ok (.iaload, 1))
    (kk : W p l e R s m args below meth c H locs cells slots Q (F0 m (pc + 1) ls (.int (σ 22 i j) :: rest))) : W p l e R s m args below meth c H locs cells slots Q (F0 m pc ls (.int x :: .ref (ad (pMtype i)) :: rest)) := by
  subst hj
  exact va_iald B.1 B.2.1 B.2.2.2.2.2.1 hP (pMtype i) 0 (md_w_Mtype h) rfl hin hdg kk
theorem is_Mtype (B : ed_B p s m args meth c cc own nL D ca) (hP : va_P D vwCl (md_w ad ca σ) H) (hD : va_D A (md_w ad ca σ)) (hS : va_S A s.heap H locs) (h : i < 1) (hin : vp_in x 16) (hj : x.toNatClampNeg = j) (eq : σ1 = ed_st σ 22 i j v) (hdg : decode cc pc = .ok (.iastore, 1))
    (kk : ∀ (H1 : Heap) (locs1 : List Loc), va_P D vwCl (md_w ad ca σ1) H1 → va_D A (md_w ad ca σ1) → va_S A s.heap H1 locs1 → W p l e R s m args below meth c H1 locs1 cells slots Q (F0 m (pc + 1) ls rest)) : W p l e R s m args below meth c H locs cells slots Q (F0 m pc ls (.int v :: .int x :: .ref (ad (pMtype i)) :: rest)) := by
  subst eq
  subst hj
  refine va_iast B.1 B.2.1 B.2.2.2.2.2.1 hP hD hS (pMtype i) 0 (md_w_Mtype h) rfl hin hdg (fun H1 locs1 hP1 hD1 hS1 => ?_)
  have q0 := md_w_set (ad := ad) (ca := ca) (σ := σ) (σ2 := ed_st σ 22 i x.toNatClampNeg v) (md_lt_Mtype h) (md_ct_Mtype h) (fun z hl hz => md_ct_st hl hz)
  have q1 : cMtype ad ca (ed_st σ 22 i x.toNatClampNeg v) i = .inl (ca 0, 16, .inl (upd (fun j => σ 22 i j) x.toNatClampNeg v)) := by
    show Sum.inl (ca 0, 16, Sum.inl _) = Sum.inl (ca 0, 16, Sum.inl _)
    congr 3
    refine congrArg Sum.inl ?_
    funext j
    simp [ed_st, upd]
  rw [q1] at q0
  rw [q0] at hP1 hD1
  exact kk H1 locs1 hP1 hD1 hS1
theorem an_Mtype (B : ed_B p s m args meth c cc own nL D ca) (hP : va_P D vwCl (md_w ad ca σ) H) (h : i < 1) (hdg : decode cc pc = .ok (.arraylength, 1))
    (kk : W p l e R s m args below meth c H locs cells slots Q (F0 m (pc + 1) ls (.int (nI 16) :: rest))) : W p l e R s m args below meth c H locs cells slots Q (F0 m pc ls (.ref (ad (pMtype i)) :: rest)) :=
  va_alen B.1 B.2.1 B.2.2.2.2.2.1 hP (pMtype i) 0 (md_w_Mtype h) rfl rfl hdg kk
theorem il_Mname (B : ed_B p s m args meth c cc own nL D ca) (hP : va_P D vwCl (md_w ad ca σ) H) (h : i < 1) (hin : vp_in x 16) (hj : x.toNatClampNeg = j) (hdg : decode cc pc = .ok (.iaload, 1))
    (kk : W p l e R s m args below meth c H locs cells slots Q (F0 m (pc + 1) ls (.int (σ 23 i j) :: rest))) : W p l e R s m args below meth c H locs cells slots Q (F0 m pc ls (.int x :: .ref (ad (pMname i)) :: rest)) := by
  subst hj
  exact va_iald B.1 B.2.1 B.2.2.2.2.2.1 hP (pMname i) 0 (md_w_Mname h) rfl hin hdg kk
theorem is_Mname (B : ed_B p s m args meth c cc own nL D ca) (hP : va_P D vwCl (md_w ad ca σ) H) (hD : va_D A (md_w ad ca σ)) (hS : va_S A s.heap H locs) (h : i < 1) (hin : vp_in x 16) (hj : x.toNatClampNeg = j) (eq : σ1 = ed_st σ 23 i j v) (hdg : decode cc pc = .ok (.iastore, 1))
    (kk : ∀ (H1 : Heap) (locs1 : List Loc), va_P D vwCl (md_w ad ca σ1) H1 → va_D A (md_w ad ca σ1) → va_S A s.heap H1 locs1 → W p l e R s m args below meth c H1 locs1 cells slots Q (F0 m (pc + 1) ls rest)) : W p l e R s m args below meth c H locs cells slots Q (F0 m pc ls (.int v :: .int x :: .ref (ad (pMname i)) :: rest)) := by
  subst eq
  subst hj
  refine va_iast B.1 B.2.1 B.2.2.2.2.2.1 hP hD hS (pMname i) 0 (md_w_Mname h) rfl hin hdg (fun H1 locs1 hP1 hD1 hS1 => ?_)
  have q0 := md_w_set (ad := ad) (ca := ca) (σ := σ) (σ2 := ed_st σ 23 i x.toNatClampNeg v) (md_lt_Mname h) (md_ct_Mname h) (fun z hl hz => md_ct_st hl hz)
  have q1 : cMname ad ca (ed_st σ 23 i x.toNatClampNeg v) i = .inl (ca 0, 16, .inl (upd (fun j => σ 23 i j) x.toNatClampNeg v)) := by
    show Sum.inl (ca 0, 16, Sum.inl _) = Sum.inl (ca 0, 16, Sum.inl _)
    congr 3
    refine congrArg Sum.inl ?_
    funext j
    simp [ed_st, upd]
  rw [q1] at q0
  rw [q0] at hP1 hD1
  exact kk H1 locs1 hP1 hD1 hS1
theorem an_Mname (B : ed_B p s m args meth c cc own nL D ca) (hP : va_P D vwCl (md_w ad ca σ) H) (h : i < 1) (hdg : decode cc pc = .ok (.arraylength, 1))
    (kk : W p l e R s m args below meth c H locs cells slots Q (F0 m (pc + 1) ls (.int (nI 16) :: rest))) : W p l e R s m args below meth c H locs cells slots Q (F0 m pc ls (.ref (ad (pMname i)) :: rest)) :=
  va_alen B.1 B.2.1 B.2.2.2.2.2.1 hP (pMname i) 0 (md_w_Mname h) rfl rfl hdg kk
theorem il_Mcount (B : ed_B p s m args meth c cc own nL D ca) (hP : va_P D vwCl (md_w ad ca σ) H) (h : i < 1) (hin : vp_in x 16) (hj : x.toNatClampNeg = j) (hdg : decode cc pc = .ok (.iaload, 1))
    (kk : W p l e R s m args below meth c H locs cells slots Q (F0 m (pc + 1) ls (.int (σ 24 i j) :: rest))) : W p l e R s m args below meth c H locs cells slots Q (F0 m pc ls (.int x :: .ref (ad (pMcount i)) :: rest)) := by
  subst hj
  exact va_iald B.1 B.2.1 B.2.2.2.2.2.1 hP (pMcount i) 0 (md_w_Mcount h) rfl hin hdg kk
theorem is_Mcount (B : ed_B p s m args meth c cc own nL D ca) (hP : va_P D vwCl (md_w ad ca σ) H) (hD : va_D A (md_w ad ca σ)) (hS : va_S A s.heap H locs) (h : i < 1) (hin : vp_in x 16) (hj : x.toNatClampNeg = j) (eq : σ1 = ed_st σ 24 i j v) (hdg : decode cc pc = .ok (.iastore, 1))
    (kk : ∀ (H1 : Heap) (locs1 : List Loc), va_P D vwCl (md_w ad ca σ1) H1 → va_D A (md_w ad ca σ1) → va_S A s.heap H1 locs1 → W p l e R s m args below meth c H1 locs1 cells slots Q (F0 m (pc + 1) ls rest)) : W p l e R s m args below meth c H locs cells slots Q (F0 m pc ls (.int v :: .int x :: .ref (ad (pMcount i)) :: rest)) := by
  subst eq
  subst hj
  refine va_iast B.1 B.2.1 B.2.2.2.2.2.1 hP hD hS (pMcount i) 0 (md_w_Mcount h) rfl hin hdg (fun H1 locs1 hP1 hD1 hS1 => ?_)
  have q0 := md_w_set (ad := ad) (ca := ca) (σ := σ) (σ2 := ed_st σ 24 i x.toNatClampNeg v) (md_lt_Mcount h) (md_ct_Mcount h) (fun z hl hz => md_ct_st hl hz)
  have q1 : cMcount ad ca (ed_st σ 24 i x.toNatClampNeg v) i = .inl (ca 0, 16, .inl (upd (fun j => σ 24 i j) x.toNatClampNeg v)) := by
    show Sum.inl (ca 0, 16, Sum.inl _) = Sum.inl (ca 0, 16, Sum.inl _)
    congr 3
    refine congrArg Sum.inl ?_
    funext j
    simp [ed_st, upd]
  rw [q1] at q0
  rw [q0] at hP1 hD1
  exact kk H1 locs1 hP1 hD1 hS1
theorem an_Mcount (B : ed_B p s m args meth c cc own nL D ca) (hP : va_P D vwCl (md_w ad ca σ) H) (h : i < 1) (hdg : decode cc pc = .ok (.arraylength, 1))
    (kk : W p l e R s m args below meth c H locs cells slots Q (F0 m (pc + 1) ls (.int (nI 16) :: rest))) : W p l e R s m args below meth c H locs cells slots Q (F0 m pc ls (.ref (ad (pMcount i)) :: rest)) :=
  va_alen B.1 B.2.1 B.2.2.2.2.2.1 hP (pMcount i) 0 (md_w_Mcount h) rfl rfl hdg kk
theorem il_Mowner (B : ed_B p s m args meth c cc own nL D ca) (hP : va_P D vwCl (md_w ad ca σ) H) (h : i < 1) (hin : vp_in x 16) (hj : x.toNatClampNeg = j) (hdg : decode cc pc = .ok (.iaload, 1))
    (kk : W p l e R s m args below meth c H locs cells slots Q (F0 m (pc + 1) ls (.int (σ 25 i j) :: rest))) : W p l e R s m args below meth c H locs cells slots Q (F0 m pc ls (.int x :: .ref (ad (pMowner i)) :: rest)) := by
  subst hj
  exact va_iald B.1 B.2.1 B.2.2.2.2.2.1 hP (pMowner i) 0 (md_w_Mowner h) rfl hin hdg kk
theorem is_Mowner (B : ed_B p s m args meth c cc own nL D ca) (hP : va_P D vwCl (md_w ad ca σ) H) (hD : va_D A (md_w ad ca σ)) (hS : va_S A s.heap H locs) (h : i < 1) (hin : vp_in x 16) (hj : x.toNatClampNeg = j) (eq : σ1 = ed_st σ 25 i j v) (hdg : decode cc pc = .ok (.iastore, 1))
    (kk : ∀ (H1 : Heap) (locs1 : List Loc), va_P D vwCl (md_w ad ca σ1) H1 → va_D A (md_w ad ca σ1) → va_S A s.heap H1 locs1 → W p l e R s m args below meth c H1 locs1 cells slots Q (F0 m (pc + 1) ls rest)) : W p l e R s m args below meth c H locs cells slots Q (F0 m pc ls (.int v :: .int x :: .ref (ad (pMowner i)) :: rest)) := by
  subst eq
  subst hj
  refine va_iast B.1 B.2.1 B.2.2.2.2.2.1 hP hD hS (pMowner i) 0 (md_w_Mowner h) rfl hin hdg (fun H1 locs1 hP1 hD1 hS1 => ?_)
  have q0 := md_w_set (ad := ad) (ca := ca) (σ := σ) (σ2 := ed_st σ 25 i x.toNatClampNeg v) (md_lt_Mowner h) (md_ct_Mowner h) (fun z hl hz => md_ct_st hl hz)
  have q1 : cMowner ad ca (ed_st σ 25 i x.toNatClampNeg v) i = .inl (ca 0, 16, .inl (upd (fun j => σ 25 i j) x.toNatClampNeg v)) := by
    show Sum.inl (ca 0, 16, Sum.inl _) = Sum.inl (ca 0, 16, Sum.inl _)
    congr 3
    refine congrArg Sum.inl ?_
    funext j
    simp [ed_st, upd]
  rw [q1] at q0
  rw [q0] at hP1 hD1
  exact kk H1 locs1 hP1 hD1 hS1
theorem an_Mowner (B : ed_B p s m args meth c cc own nL D ca) (hP : va_P D vwCl (md_w ad ca σ) H) (h : i < 1) (hdg : decode cc pc = .ok (.arraylength, 1))
    (kk : W p l e R s m args below meth c H locs cells slots Q (F0 m (pc + 1) ls (.int (nI 16) :: rest))) : W p l e R s m args below meth c H locs cells slots Q (F0 m pc ls (.ref (ad (pMowner i)) :: rest)) :=
  va_alen B.1 B.2.1 B.2.2.2.2.2.1 hP (pMowner i) 0 (md_w_Mowner h) rfl rfl hdg kk
theorem il_Mtime (B : ed_B p s m args meth c cc own nL D ca) (hP : va_P D vwCl (md_w ad ca σ) H) (h : i < 1) (hin : vp_in x 16) (hj : x.toNatClampNeg = j) (hdg : decode cc pc = .ok (.iaload, 1))
    (kk : W p l e R s m args below meth c H locs cells slots Q (F0 m (pc + 1) ls (.int (σ 26 i j) :: rest))) : W p l e R s m args below meth c H locs cells slots Q (F0 m pc ls (.int x :: .ref (ad (pMtime i)) :: rest)) := by
  subst hj
  exact va_iald B.1 B.2.1 B.2.2.2.2.2.1 hP (pMtime i) 0 (md_w_Mtime h) rfl hin hdg kk
theorem is_Mtime (B : ed_B p s m args meth c cc own nL D ca) (hP : va_P D vwCl (md_w ad ca σ) H) (hD : va_D A (md_w ad ca σ)) (hS : va_S A s.heap H locs) (h : i < 1) (hin : vp_in x 16) (hj : x.toNatClampNeg = j) (eq : σ1 = ed_st σ 26 i j v) (hdg : decode cc pc = .ok (.iastore, 1))
    (kk : ∀ (H1 : Heap) (locs1 : List Loc), va_P D vwCl (md_w ad ca σ1) H1 → va_D A (md_w ad ca σ1) → va_S A s.heap H1 locs1 → W p l e R s m args below meth c H1 locs1 cells slots Q (F0 m (pc + 1) ls rest)) : W p l e R s m args below meth c H locs cells slots Q (F0 m pc ls (.int v :: .int x :: .ref (ad (pMtime i)) :: rest)) := by
  subst eq
  subst hj
  refine va_iast B.1 B.2.1 B.2.2.2.2.2.1 hP hD hS (pMtime i) 0 (md_w_Mtime h) rfl hin hdg (fun H1 locs1 hP1 hD1 hS1 => ?_)
  have q0 := md_w_set (ad := ad) (ca := ca) (σ := σ) (σ2 := ed_st σ 26 i x.toNatClampNeg v) (md_lt_Mtime h) (md_ct_Mtime h) (fun z hl hz => md_ct_st hl hz)
  have q1 : cMtime ad ca (ed_st σ 26 i x.toNatClampNeg v) i = .inl (ca 0, 16, .inl (upd (fun j => σ 26 i j) x.toNatClampNeg v)) := by
    show Sum.inl (ca 0, 16, Sum.inl _) = Sum.inl (ca 0, 16, Sum.inl _)
    congr 3
    refine congrArg Sum.inl ?_
    funext j
    simp [ed_st, upd]
  rw [q1] at q0
  rw [q0] at hP1 hD1
  exact kk H1 locs1 hP1 hD1 hS1
theorem an_Mtime (B : ed_B p s m args meth c cc own nL D ca) (hP : va_P D vwCl (md_w ad ca σ) H) (h : i < 1) (hdg : decode cc pc = .ok (.arraylength, 1))
    (kk : W p l e R s m args below meth c H locs cells slots Q (F0 m (pc + 1) ls (.int (nI 16) :: rest))) : W p l e R s m args below meth c H locs cells slots Q (F0 m pc ls (.ref (ad (pMtime i)) :: rest)) :=
  va_alen B.1 B.2.1 B.2.2.2.2.2.1 hP (pMtime i) 0 (md_w_Mtime h) rfl rfl hdg kk
theorem il_Mrules (B : ed_B p s m args meth c cc own nL D ca) (hP : va_P D vwCl (md_w ad ca σ) H) (h : i < 1) (hin : vp_in x 16) (hj : x.toNatClampNeg = j) (hdg : decode cc pc = .ok (.iaload, 1))
    (kk : W p l e R s m args below meth c H locs cells slots Q (F0 m (pc + 1) ls (.int (σ 27 i j) :: rest))) : W p l e R s m args below meth c H locs cells slots Q (F0 m pc ls (.int x :: .ref (ad (pMrules i)) :: rest)) := by
  subst hj
  exact va_iald B.1 B.2.1 B.2.2.2.2.2.1 hP (pMrules i) 0 (md_w_Mrules h) rfl hin hdg kk
theorem is_Mrules (B : ed_B p s m args meth c cc own nL D ca) (hP : va_P D vwCl (md_w ad ca σ) H) (hD : va_D A (md_w ad ca σ)) (hS : va_S A s.heap H locs) (h : i < 1) (hin : vp_in x 16) (hj : x.toNatClampNeg = j) (eq : σ1 = ed_st σ 27 i j v) (hdg : decode cc pc = .ok (.iastore, 1))
    (kk : ∀ (H1 : Heap) (locs1 : List Loc), va_P D vwCl (md_w ad ca σ1) H1 → va_D A (md_w ad ca σ1) → va_S A s.heap H1 locs1 → W p l e R s m args below meth c H1 locs1 cells slots Q (F0 m (pc + 1) ls rest)) : W p l e R s m args below meth c H locs cells slots Q (F0 m pc ls (.int v :: .int x :: .ref (ad (pMrules i)) :: rest)) := by
  subst eq
  subst hj
  refine va_iast B.1 B.2.1 B.2.2.2.2.2.1 hP hD hS (pMrules i) 0 (md_w_Mrules h) rfl hin hdg (fun H1 locs1 hP1 hD1 hS1 => ?_)
  have q0 := md_w_set (ad := ad) (ca := ca) (σ := σ) (σ2 := ed_st σ 27 i x.toNatClampNeg v) (md_lt_Mrules h) (md_ct_Mrules h) (fun z hl hz => md_ct_st hl hz)
  have q1 : cMrules ad ca (ed_st σ 27 i x.toNatClampNeg v) i = .inl (ca 0, 16, .inl (upd (fun j => σ 27 i j) x.toNatClampNeg v)) := by
    show Sum.inl (ca 0, 16, Sum.inl _) = Sum.inl (ca 0, 16, Sum.inl _)
    congr 3
    refine congrArg Sum.inl ?_
    funext j
    simp [ed_st, upd]
  rw [q1] at q0
  rw [q0] at hP1 hD1
  exact kk H1 locs1 hP1 hD1 hS1
theorem an_Mrules (B : ed_B p s m args meth c cc own nL D ca) (hP : va_P D vwCl (md_w ad ca σ) H) (h : i < 1) (hdg : decode cc pc = .ok (.arraylength, 1))
    (kk : W p l e R s m args below meth c H locs cells slots Q (F0 m (pc + 1) ls (.int (nI 16) :: rest))) : W p l e R s m args below meth c H locs cells slots Q (F0 m pc ls (.ref (ad (pMrules i)) :: rest)) :=
  va_alen B.1 B.2.1 B.2.2.2.2.2.1 hP (pMrules i) 0 (md_w_Mrules h) rfl rfl hdg kk
theorem il_MruleKind (B : ed_B p s m args meth c cc own nL D ca) (hP : va_P D vwCl (md_w ad ca σ) H) (h : i < 1) (hin : vp_in x 64) (hj : x.toNatClampNeg = j) (hdg : decode cc pc = .ok (.iaload, 1))
    (kk : W p l e R s m args below meth c H locs cells slots Q (F0 m (pc + 1) ls (.int (σ 28 i j) :: rest))) : W p l e R s m args below meth c H locs cells slots Q (F0 m pc ls (.int x :: .ref (ad (pMruleKind i)) :: rest)) := by
  subst hj
  exact va_iald B.1 B.2.1 B.2.2.2.2.2.1 hP (pMruleKind i) 0 (md_w_MruleKind h) rfl hin hdg kk
theorem is_MruleKind (B : ed_B p s m args meth c cc own nL D ca) (hP : va_P D vwCl (md_w ad ca σ) H) (hD : va_D A (md_w ad ca σ)) (hS : va_S A s.heap H locs) (h : i < 1) (hin : vp_in x 64) (hj : x.toNatClampNeg = j) (eq : σ1 = ed_st σ 28 i j v) (hdg : decode cc pc = .ok (.iastore, 1))
    (kk : ∀ (H1 : Heap) (locs1 : List Loc), va_P D vwCl (md_w ad ca σ1) H1 → va_D A (md_w ad ca σ1) → va_S A s.heap H1 locs1 → W p l e R s m args below meth c H1 locs1 cells slots Q (F0 m (pc + 1) ls rest)) : W p l e R s m args below meth c H locs cells slots Q (F0 m pc ls (.int v :: .int x :: .ref (ad (pMruleKind i)) :: rest)) := by
  subst eq
  subst hj
  refine va_iast B.1 B.2.1 B.2.2.2.2.2.1 hP hD hS (pMruleKind i) 0 (md_w_MruleKind h) rfl hin hdg (fun H1 locs1 hP1 hD1 hS1 => ?_)
  have q0 := md_w_set (ad := ad) (ca := ca) (σ := σ) (σ2 := ed_st σ 28 i x.toNatClampNeg v) (md_lt_MruleKind h) (md_ct_MruleKind h) (fun z hl hz => md_ct_st hl hz)
  have q1 : cMruleKind ad ca (ed_st σ 28 i x.toNatClampNeg v) i = .inl (ca 0, 64, .inl (upd (fun j => σ 28 i j) x.toNatClampNeg v)) := by
    show Sum.inl (ca 0, 64, Sum.inl _) = Sum.inl (ca 0, 64, Sum.inl _)
    congr 3
    refine congrArg Sum.inl ?_
    funext j
    simp [ed_st, upd]
  rw [q1] at q0
  rw [q0] at hP1 hD1
  exact kk H1 locs1 hP1 hD1 hS1
theorem an_MruleKind (B : ed_B p s m args meth c cc own nL D ca) (hP : va_P D vwCl (md_w ad ca σ) H) (h : i < 1) (hdg : decode cc pc = .ok (.arraylength, 1))
    (kk : W p l e R s m args below meth c H locs cells slots Q (F0 m (pc + 1) ls (.int (nI 64) :: rest))) : W p l e R s m args below meth c H locs cells slots Q (F0 m pc ls (.ref (ad (pMruleKind i)) :: rest)) :=
  va_alen B.1 B.2.1 B.2.2.2.2.2.1 hP (pMruleKind i) 0 (md_w_MruleKind h) rfl rfl hdg kk
theorem il_MruleGroup (B : ed_B p s m args meth c cc own nL D ca) (hP : va_P D vwCl (md_w ad ca σ) H) (h : i < 1) (hin : vp_in x 64) (hj : x.toNatClampNeg = j) (hdg : decode cc pc = .ok (.iaload, 1))
    (kk : W p l e R s m args below meth c H locs cells slots Q (F0 m (pc + 1) ls (.int (σ 29 i j) :: rest))) : W p l e R s m args below meth c H locs cells slots Q (F0 m pc ls (.int x :: .ref (ad (pMruleGroup i)) :: rest)) := by
  subst hj
  exact va_iald B.1 B.2.1 B.2.2.2.2.2.1 hP (pMruleGroup i) 0 (md_w_MruleGroup h) rfl hin hdg kk
theorem is_MruleGroup (B : ed_B p s m args meth c cc own nL D ca) (hP : va_P D vwCl (md_w ad ca σ) H) (hD : va_D A (md_w ad ca σ)) (hS : va_S A s.heap H locs) (h : i < 1) (hin : vp_in x 64) (hj : x.toNatClampNeg = j) (eq : σ1 = ed_st σ 29 i j v) (hdg : decode cc pc = .ok (.iastore, 1))
    (kk : ∀ (H1 : Heap) (locs1 : List Loc), va_P D vwCl (md_w ad ca σ1) H1 → va_D A (md_w ad ca σ1) → va_S A s.heap H1 locs1 → W p l e R s m args below meth c H1 locs1 cells slots Q (F0 m (pc + 1) ls rest)) : W p l e R s m args below meth c H locs cells slots Q (F0 m pc ls (.int v :: .int x :: .ref (ad (pMruleGroup i)) :: rest)) := by
  subst eq
  subst hj
  refine va_iast B.1 B.2.1 B.2.2.2.2.2.1 hP hD hS (pMruleGroup i) 0 (md_w_MruleGroup h) rfl hin hdg (fun H1 locs1 hP1 hD1 hS1 => ?_)
  have q0 := md_w_set (ad := ad) (ca := ca) (σ := σ) (σ2 := ed_st σ 29 i x.toNatClampNeg v) (md_lt_MruleGroup h) (md_ct_MruleGroup h) (fun z hl hz => md_ct_st hl hz)
  have q1 : cMruleGroup ad ca (ed_st σ 29 i x.toNatClampNeg v) i = .inl (ca 0, 64, .inl (upd (fun j => σ 29 i j) x.toNatClampNeg v)) := by
    show Sum.inl (ca 0, 64, Sum.inl _) = Sum.inl (ca 0, 64, Sum.inl _)
    congr 3
    refine congrArg Sum.inl ?_
    funext j
    simp [ed_st, upd]
  rw [q1] at q0
  rw [q0] at hP1 hD1
  exact kk H1 locs1 hP1 hD1 hS1
theorem an_MruleGroup (B : ed_B p s m args meth c cc own nL D ca) (hP : va_P D vwCl (md_w ad ca σ) H) (h : i < 1) (hdg : decode cc pc = .ok (.arraylength, 1))
    (kk : W p l e R s m args below meth c H locs cells slots Q (F0 m (pc + 1) ls (.int (nI 64) :: rest))) : W p l e R s m args below meth c H locs cells slots Q (F0 m pc ls (.ref (ad (pMruleGroup i)) :: rest)) :=
  va_alen B.1 B.2.1 B.2.2.2.2.2.1 hP (pMruleGroup i) 0 (md_w_MruleGroup h) rfl rfl hdg kk
theorem il_MruleRights (B : ed_B p s m args meth c cc own nL D ca) (hP : va_P D vwCl (md_w ad ca σ) H) (h : i < 1) (hin : vp_in x 64) (hj : x.toNatClampNeg = j) (hdg : decode cc pc = .ok (.iaload, 1))
    (kk : W p l e R s m args below meth c H locs cells slots Q (F0 m (pc + 1) ls (.int (σ 30 i j) :: rest))) : W p l e R s m args below meth c H locs cells slots Q (F0 m pc ls (.int x :: .ref (ad (pMruleRights i)) :: rest)) := by
  subst hj
  exact va_iald B.1 B.2.1 B.2.2.2.2.2.1 hP (pMruleRights i) 0 (md_w_MruleRights h) rfl hin hdg kk
theorem is_MruleRights (B : ed_B p s m args meth c cc own nL D ca) (hP : va_P D vwCl (md_w ad ca σ) H) (hD : va_D A (md_w ad ca σ)) (hS : va_S A s.heap H locs) (h : i < 1) (hin : vp_in x 64) (hj : x.toNatClampNeg = j) (eq : σ1 = ed_st σ 30 i j v) (hdg : decode cc pc = .ok (.iastore, 1))
    (kk : ∀ (H1 : Heap) (locs1 : List Loc), va_P D vwCl (md_w ad ca σ1) H1 → va_D A (md_w ad ca σ1) → va_S A s.heap H1 locs1 → W p l e R s m args below meth c H1 locs1 cells slots Q (F0 m (pc + 1) ls rest)) : W p l e R s m args below meth c H locs cells slots Q (F0 m pc ls (.int v :: .int x :: .ref (ad (pMruleRights i)) :: rest)) := by
  subst eq
  subst hj
  refine va_iast B.1 B.2.1 B.2.2.2.2.2.1 hP hD hS (pMruleRights i) 0 (md_w_MruleRights h) rfl hin hdg (fun H1 locs1 hP1 hD1 hS1 => ?_)
  have q0 := md_w_set (ad := ad) (ca := ca) (σ := σ) (σ2 := ed_st σ 30 i x.toNatClampNeg v) (md_lt_MruleRights h) (md_ct_MruleRights h) (fun z hl hz => md_ct_st hl hz)
  have q1 : cMruleRights ad ca (ed_st σ 30 i x.toNatClampNeg v) i = .inl (ca 0, 64, .inl (upd (fun j => σ 30 i j) x.toNatClampNeg v)) := by
    show Sum.inl (ca 0, 64, Sum.inl _) = Sum.inl (ca 0, 64, Sum.inl _)
    congr 3
    refine congrArg Sum.inl ?_
    funext j
    simp [ed_st, upd]
  rw [q1] at q0
  rw [q0] at hP1 hD1
  exact kk H1 locs1 hP1 hD1 hS1
theorem an_MruleRights (B : ed_B p s m args meth c cc own nL D ca) (hP : va_P D vwCl (md_w ad ca σ) H) (h : i < 1) (hdg : decode cc pc = .ok (.arraylength, 1))
    (kk : W p l e R s m args below meth c H locs cells slots Q (F0 m (pc + 1) ls (.int (nI 64) :: rest))) : W p l e R s m args below meth c H locs cells slots Q (F0 m pc ls (.ref (ad (pMruleRights i)) :: rest)) :=
  va_alen B.1 B.2.1 B.2.2.2.2.2.1 hP (pMruleRights i) 0 (md_w_MruleRights h) rfl rfl hdg kk
theorem il_MtState (B : ed_B p s m args meth c cc own nL D ca) (hP : va_P D vwCl (md_w ad ca σ) H) (h : i < 1) (hin : vp_in x 8) (hj : x.toNatClampNeg = j) (hdg : decode cc pc = .ok (.iaload, 1))
    (kk : W p l e R s m args below meth c H locs cells slots Q (F0 m (pc + 1) ls (.int (σ 31 i j) :: rest))) : W p l e R s m args below meth c H locs cells slots Q (F0 m pc ls (.int x :: .ref (ad (pMtState i)) :: rest)) := by
  subst hj
  exact va_iald B.1 B.2.1 B.2.2.2.2.2.1 hP (pMtState i) 0 (md_w_MtState h) rfl hin hdg kk
theorem is_MtState (B : ed_B p s m args meth c cc own nL D ca) (hP : va_P D vwCl (md_w ad ca σ) H) (hD : va_D A (md_w ad ca σ)) (hS : va_S A s.heap H locs) (h : i < 1) (hin : vp_in x 8) (hj : x.toNatClampNeg = j) (eq : σ1 = ed_st σ 31 i j v) (hdg : decode cc pc = .ok (.iastore, 1))
    (kk : ∀ (H1 : Heap) (locs1 : List Loc), va_P D vwCl (md_w ad ca σ1) H1 → va_D A (md_w ad ca σ1) → va_S A s.heap H1 locs1 → W p l e R s m args below meth c H1 locs1 cells slots Q (F0 m (pc + 1) ls rest)) : W p l e R s m args below meth c H locs cells slots Q (F0 m pc ls (.int v :: .int x :: .ref (ad (pMtState i)) :: rest)) := by
  subst eq
  subst hj
  refine va_iast B.1 B.2.1 B.2.2.2.2.2.1 hP hD hS (pMtState i) 0 (md_w_MtState h) rfl hin hdg (fun H1 locs1 hP1 hD1 hS1 => ?_)
  have q0 := md_w_set (ad := ad) (ca := ca) (σ := σ) (σ2 := ed_st σ 31 i x.toNatClampNeg v) (md_lt_MtState h) (md_ct_MtState h) (fun z hl hz => md_ct_st hl hz)
  have q1 : cMtState ad ca (ed_st σ 31 i x.toNatClampNeg v) i = .inl (ca 0, 8, .inl (upd (fun j => σ 31 i j) x.toNatClampNeg v)) := by
    show Sum.inl (ca 0, 8, Sum.inl _) = Sum.inl (ca 0, 8, Sum.inl _)
    congr 3
    refine congrArg Sum.inl ?_
    funext j
    simp [ed_st, upd]
  rw [q1] at q0
  rw [q0] at hP1 hD1
  exact kk H1 locs1 hP1 hD1 hS1
theorem an_MtState (B : ed_B p s m args meth c cc own nL D ca) (hP : va_P D vwCl (md_w ad ca σ) H) (h : i < 1) (hdg : decode cc pc = .ok (.arraylength, 1))
    (kk : W p l e R s m args below meth c H locs cells slots Q (F0 m (pc + 1) ls (.int (nI 8) :: rest))) : W p l e R s m args below meth c H locs cells slots Q (F0 m pc ls (.ref (ad (pMtState i)) :: rest)) :=
  va_alen B.1 B.2.1 B.2.2.2.2.2.1 hP (pMtState i) 0 (md_w_MtState h) rfl rfl hdg kk
theorem il_MtAmount (B : ed_B p s m args meth c cc own nL D ca) (hP : va_P D vwCl (md_w ad ca σ) H) (h : i < 1) (hin : vp_in x 8) (hj : x.toNatClampNeg = j) (hdg : decode cc pc = .ok (.iaload, 1))
    (kk : W p l e R s m args below meth c H locs cells slots Q (F0 m (pc + 1) ls (.int (σ 32 i j) :: rest))) : W p l e R s m args below meth c H locs cells slots Q (F0 m pc ls (.int x :: .ref (ad (pMtAmount i)) :: rest)) := by
  subst hj
  exact va_iald B.1 B.2.1 B.2.2.2.2.2.1 hP (pMtAmount i) 0 (md_w_MtAmount h) rfl hin hdg kk
theorem is_MtAmount (B : ed_B p s m args meth c cc own nL D ca) (hP : va_P D vwCl (md_w ad ca σ) H) (hD : va_D A (md_w ad ca σ)) (hS : va_S A s.heap H locs) (h : i < 1) (hin : vp_in x 8) (hj : x.toNatClampNeg = j) (eq : σ1 = ed_st σ 32 i j v) (hdg : decode cc pc = .ok (.iastore, 1))
    (kk : ∀ (H1 : Heap) (locs1 : List Loc), va_P D vwCl (md_w ad ca σ1) H1 → va_D A (md_w ad ca σ1) → va_S A s.heap H1 locs1 → W p l e R s m args below meth c H1 locs1 cells slots Q (F0 m (pc + 1) ls rest)) : W p l e R s m args below meth c H locs cells slots Q (F0 m pc ls (.int v :: .int x :: .ref (ad (pMtAmount i)) :: rest)) := by
  subst eq
  subst hj
  refine va_iast B.1 B.2.1 B.2.2.2.2.2.1 hP hD hS (pMtAmount i) 0 (md_w_MtAmount h) rfl hin hdg (fun H1 locs1 hP1 hD1 hS1 => ?_)
  have q0 := md_w_set (ad := ad) (ca := ca) (σ := σ) (σ2 := ed_st σ 32 i x.toNatClampNeg v) (md_lt_MtAmount h) (md_ct_MtAmount h) (fun z hl hz => md_ct_st hl hz)
  have q1 : cMtAmount ad ca (ed_st σ 32 i x.toNatClampNeg v) i = .inl (ca 0, 8, .inl (upd (fun j => σ 32 i j) x.toNatClampNeg v)) := by
    show Sum.inl (ca 0, 8, Sum.inl _) = Sum.inl (ca 0, 8, Sum.inl _)
    congr 3
    refine congrArg Sum.inl ?_
    funext j
    simp [ed_st, upd]
  rw [q1] at q0
  rw [q0] at hP1 hD1
  exact kk H1 locs1 hP1 hD1 hS1
theorem an_MtAmount (B : ed_B p s m args meth c cc own nL D ca) (hP : va_P D vwCl (md_w ad ca σ) H) (h : i < 1) (hdg : decode cc pc = .ok (.arraylength, 1))
    (kk : W p l e R s m args below meth c H locs cells slots Q (F0 m (pc + 1) ls (.int (nI 8) :: rest))) : W p l e R s m args below meth c H locs cells slots Q (F0 m pc ls (.ref (ad (pMtAmount i)) :: rest)) :=
  va_alen B.1 B.2.1 B.2.2.2.2.2.1 hP (pMtAmount i) 0 (md_w_MtAmount h) rfl rfl hdg kk
theorem il_MtThread (B : ed_B p s m args meth c cc own nL D ca) (hP : va_P D vwCl (md_w ad ca σ) H) (h : i < 1) (hin : vp_in x 8) (hj : x.toNatClampNeg = j) (hdg : decode cc pc = .ok (.iaload, 1))
    (kk : W p l e R s m args below meth c H locs cells slots Q (F0 m (pc + 1) ls (.int (σ 33 i j) :: rest))) : W p l e R s m args below meth c H locs cells slots Q (F0 m pc ls (.int x :: .ref (ad (pMtThread i)) :: rest)) := by
  subst hj
  exact va_iald B.1 B.2.1 B.2.2.2.2.2.1 hP (pMtThread i) 0 (md_w_MtThread h) rfl hin hdg kk
theorem is_MtThread (B : ed_B p s m args meth c cc own nL D ca) (hP : va_P D vwCl (md_w ad ca σ) H) (hD : va_D A (md_w ad ca σ)) (hS : va_S A s.heap H locs) (h : i < 1) (hin : vp_in x 8) (hj : x.toNatClampNeg = j) (eq : σ1 = ed_st σ 33 i j v) (hdg : decode cc pc = .ok (.iastore, 1))
    (kk : ∀ (H1 : Heap) (locs1 : List Loc), va_P D vwCl (md_w ad ca σ1) H1 → va_D A (md_w ad ca σ1) → va_S A s.heap H1 locs1 → W p l e R s m args below meth c H1 locs1 cells slots Q (F0 m (pc + 1) ls rest)) : W p l e R s m args below meth c H locs cells slots Q (F0 m pc ls (.int v :: .int x :: .ref (ad (pMtThread i)) :: rest)) := by
  subst eq
  subst hj
  refine va_iast B.1 B.2.1 B.2.2.2.2.2.1 hP hD hS (pMtThread i) 0 (md_w_MtThread h) rfl hin hdg (fun H1 locs1 hP1 hD1 hS1 => ?_)
  have q0 := md_w_set (ad := ad) (ca := ca) (σ := σ) (σ2 := ed_st σ 33 i x.toNatClampNeg v) (md_lt_MtThread h) (md_ct_MtThread h) (fun z hl hz => md_ct_st hl hz)
  have q1 : cMtThread ad ca (ed_st σ 33 i x.toNatClampNeg v) i = .inl (ca 0, 8, .inl (upd (fun j => σ 33 i j) x.toNatClampNeg v)) := by
    show Sum.inl (ca 0, 8, Sum.inl _) = Sum.inl (ca 0, 8, Sum.inl _)
    congr 3
    refine congrArg Sum.inl ?_
    funext j
    simp [ed_st, upd]
  rw [q1] at q0
  rw [q0] at hP1 hD1
  exact kk H1 locs1 hP1 hD1 hS1
theorem an_MtThread (B : ed_B p s m args meth c cc own nL D ca) (hP : va_P D vwCl (md_w ad ca σ) H) (h : i < 1) (hdg : decode cc pc = .ok (.arraylength, 1))
    (kk : W p l e R s m args below meth c H locs cells slots Q (F0 m (pc + 1) ls (.int (nI 8) :: rest))) : W p l e R s m args below meth c H locs cells slots Q (F0 m pc ls (.ref (ad (pMtThread i)) :: rest)) :=
  va_alen B.1 B.2.1 B.2.2.2.2.2.1 hP (pMtThread i) 0 (md_w_MtThread h) rfl rfl hdg kk
theorem il_MtDevice (B : ed_B p s m args meth c cc own nL D ca) (hP : va_P D vwCl (md_w ad ca σ) H) (h : i < 1) (hin : vp_in x 8) (hj : x.toNatClampNeg = j) (hdg : decode cc pc = .ok (.iaload, 1))
    (kk : W p l e R s m args below meth c H locs cells slots Q (F0 m (pc + 1) ls (.int (σ 34 i j) :: rest))) : W p l e R s m args below meth c H locs cells slots Q (F0 m pc ls (.int x :: .ref (ad (pMtDevice i)) :: rest)) := by
  subst hj
  exact va_iald B.1 B.2.1 B.2.2.2.2.2.1 hP (pMtDevice i) 0 (md_w_MtDevice h) rfl hin hdg kk
theorem is_MtDevice (B : ed_B p s m args meth c cc own nL D ca) (hP : va_P D vwCl (md_w ad ca σ) H) (hD : va_D A (md_w ad ca σ)) (hS : va_S A s.heap H locs) (h : i < 1) (hin : vp_in x 8) (hj : x.toNatClampNeg = j) (eq : σ1 = ed_st σ 34 i j v) (hdg : decode cc pc = .ok (.iastore, 1))
    (kk : ∀ (H1 : Heap) (locs1 : List Loc), va_P D vwCl (md_w ad ca σ1) H1 → va_D A (md_w ad ca σ1) → va_S A s.heap H1 locs1 → W p l e R s m args below meth c H1 locs1 cells slots Q (F0 m (pc + 1) ls rest)) : W p l e R s m args below meth c H locs cells slots Q (F0 m pc ls (.int v :: .int x :: .ref (ad (pMtDevice i)) :: rest)) := by
  subst eq
  subst hj
  refine va_iast B.1 B.2.1 B.2.2.2.2.2.1 hP hD hS (pMtDevice i) 0 (md_w_MtDevice h) rfl hin hdg (fun H1 locs1 hP1 hD1 hS1 => ?_)
  have q0 := md_w_set (ad := ad) (ca := ca) (σ := σ) (σ2 := ed_st σ 34 i x.toNatClampNeg v) (md_lt_MtDevice h) (md_ct_MtDevice h) (fun z hl hz => md_ct_st hl hz)
  have q1 : cMtDevice ad ca (ed_st σ 34 i x.toNatClampNeg v) i = .inl (ca 0, 8, .inl (upd (fun j => σ 34 i j) x.toNatClampNeg v)) := by
    show Sum.inl (ca 0, 8, Sum.inl _) = Sum.inl (ca 0, 8, Sum.inl _)
    congr 3
    refine congrArg Sum.inl ?_
    funext j
    simp [ed_st, upd]
  rw [q1] at q0
  rw [q0] at hP1 hD1
  exact kk H1 locs1 hP1 hD1 hS1
theorem an_MtDevice (B : ed_B p s m args meth c cc own nL D ca) (hP : va_P D vwCl (md_w ad ca σ) H) (h : i < 1) (hdg : decode cc pc = .ok (.arraylength, 1))
    (kk : W p l e R s m args below meth c H locs cells slots Q (F0 m (pc + 1) ls (.int (nI 8) :: rest))) : W p l e R s m args below meth c H locs cells slots Q (F0 m pc ls (.ref (ad (pMtDevice i)) :: rest)) :=
  va_alen B.1 B.2.1 B.2.2.2.2.2.1 hP (pMtDevice i) 0 (md_w_MtDevice h) rfl rfl hdg kk
theorem il_MtLength (B : ed_B p s m args meth c cc own nL D ca) (hP : va_P D vwCl (md_w ad ca σ) H) (h : i < 1) (hin : vp_in x 8) (hj : x.toNatClampNeg = j) (hdg : decode cc pc = .ok (.iaload, 1))
    (kk : W p l e R s m args below meth c H locs cells slots Q (F0 m (pc + 1) ls (.int (σ 35 i j) :: rest))) : W p l e R s m args below meth c H locs cells slots Q (F0 m pc ls (.int x :: .ref (ad (pMtLength i)) :: rest)) := by
  subst hj
  exact va_iald B.1 B.2.1 B.2.2.2.2.2.1 hP (pMtLength i) 0 (md_w_MtLength h) rfl hin hdg kk
theorem is_MtLength (B : ed_B p s m args meth c cc own nL D ca) (hP : va_P D vwCl (md_w ad ca σ) H) (hD : va_D A (md_w ad ca σ)) (hS : va_S A s.heap H locs) (h : i < 1) (hin : vp_in x 8) (hj : x.toNatClampNeg = j) (eq : σ1 = ed_st σ 35 i j v) (hdg : decode cc pc = .ok (.iastore, 1))
    (kk : ∀ (H1 : Heap) (locs1 : List Loc), va_P D vwCl (md_w ad ca σ1) H1 → va_D A (md_w ad ca σ1) → va_S A s.heap H1 locs1 → W p l e R s m args below meth c H1 locs1 cells slots Q (F0 m (pc + 1) ls rest)) : W p l e R s m args below meth c H locs cells slots Q (F0 m pc ls (.int v :: .int x :: .ref (ad (pMtLength i)) :: rest)) := by
  subst eq
  subst hj
  refine va_iast B.1 B.2.1 B.2.2.2.2.2.1 hP hD hS (pMtLength i) 0 (md_w_MtLength h) rfl hin hdg (fun H1 locs1 hP1 hD1 hS1 => ?_)
  have q0 := md_w_set (ad := ad) (ca := ca) (σ := σ) (σ2 := ed_st σ 35 i x.toNatClampNeg v) (md_lt_MtLength h) (md_ct_MtLength h) (fun z hl hz => md_ct_st hl hz)
  have q1 : cMtLength ad ca (ed_st σ 35 i x.toNatClampNeg v) i = .inl (ca 0, 8, .inl (upd (fun j => σ 35 i j) x.toNatClampNeg v)) := by
    show Sum.inl (ca 0, 8, Sum.inl _) = Sum.inl (ca 0, 8, Sum.inl _)
    congr 3
    refine congrArg Sum.inl ?_
    funext j
    simp [ed_st, upd]
  rw [q1] at q0
  rw [q0] at hP1 hD1
  exact kk H1 locs1 hP1 hD1 hS1
theorem an_MtLength (B : ed_B p s m args meth c cc own nL D ca) (hP : va_P D vwCl (md_w ad ca σ) H) (h : i < 1) (hdg : decode cc pc = .ok (.arraylength, 1))
    (kk : W p l e R s m args below meth c H locs cells slots Q (F0 m (pc + 1) ls (.int (nI 8) :: rest))) : W p l e R s m args below meth c H locs cells slots Q (F0 m pc ls (.ref (ad (pMtLength i)) :: rest)) :=
  va_alen B.1 B.2.1 B.2.2.2.2.2.1 hP (pMtLength i) 0 (md_w_MtLength h) rfl rfl hdg kk
theorem il_MtSets (B : ed_B p s m args meth c cc own nL D ca) (hP : va_P D vwCl (md_w ad ca σ) H) (h : i < 1) (hin : vp_in x 8) (hj : x.toNatClampNeg = j) (hdg : decode cc pc = .ok (.iaload, 1))
    (kk : W p l e R s m args below meth c H locs cells slots Q (F0 m (pc + 1) ls (.int (σ 36 i j) :: rest))) : W p l e R s m args below meth c H locs cells slots Q (F0 m pc ls (.int x :: .ref (ad (pMtSets i)) :: rest)) := by
  subst hj
  exact va_iald B.1 B.2.1 B.2.2.2.2.2.1 hP (pMtSets i) 0 (md_w_MtSets h) rfl hin hdg kk
theorem is_MtSets (B : ed_B p s m args meth c cc own nL D ca) (hP : va_P D vwCl (md_w ad ca σ) H) (hD : va_D A (md_w ad ca σ)) (hS : va_S A s.heap H locs) (h : i < 1) (hin : vp_in x 8) (hj : x.toNatClampNeg = j) (eq : σ1 = ed_st σ 36 i j v) (hdg : decode cc pc = .ok (.iastore, 1))
    (kk : ∀ (H1 : Heap) (locs1 : List Loc), va_P D vwCl (md_w ad ca σ1) H1 → va_D A (md_w ad ca σ1) → va_S A s.heap H1 locs1 → W p l e R s m args below meth c H1 locs1 cells slots Q (F0 m (pc + 1) ls rest)) : W p l e R s m args below meth c H locs cells slots Q (F0 m pc ls (.int v :: .int x :: .ref (ad (pMtSets i)) :: rest)) := by
  subst eq
  subst hj
  refine va_iast B.1 B.2.1 B.2.2.2.2.2.1 hP hD hS (pMtSets i) 0 (md_w_MtSets h) rfl hin hdg (fun H1 locs1 hP1 hD1 hS1 => ?_)
  have q0 := md_w_set (ad := ad) (ca := ca) (σ := σ) (σ2 := ed_st σ 36 i x.toNatClampNeg v) (md_lt_MtSets h) (md_ct_MtSets h) (fun z hl hz => md_ct_st hl hz)
  have q1 : cMtSets ad ca (ed_st σ 36 i x.toNatClampNeg v) i = .inl (ca 0, 8, .inl (upd (fun j => σ 36 i j) x.toNatClampNeg v)) := by
    show Sum.inl (ca 0, 8, Sum.inl _) = Sum.inl (ca 0, 8, Sum.inl _)
    congr 3
    refine congrArg Sum.inl ?_
    funext j
    simp [ed_st, upd]
  rw [q1] at q0
  rw [q0] at hP1 hD1
  exact kk H1 locs1 hP1 hD1 hS1
theorem an_MtSets (B : ed_B p s m args meth c cc own nL D ca) (hP : va_P D vwCl (md_w ad ca σ) H) (h : i < 1) (hdg : decode cc pc = .ok (.arraylength, 1))
    (kk : W p l e R s m args below meth c H locs cells slots Q (F0 m (pc + 1) ls (.int (nI 8) :: rest))) : W p l e R s m args below meth c H locs cells slots Q (F0 m pc ls (.ref (ad (pMtSets i)) :: rest)) :=
  va_alen B.1 B.2.1 B.2.2.2.2.2.1 hP (pMtSets i) 0 (md_w_MtSets h) rfl rfl hdg kk
theorem il_MtOrder (B : ed_B p s m args meth c cc own nL D ca) (hP : va_P D vwCl (md_w ad ca σ) H) (h : i < 1) (hin : vp_in x 8) (hj : x.toNatClampNeg = j) (hdg : decode cc pc = .ok (.iaload, 1))
    (kk : W p l e R s m args below meth c H locs cells slots Q (F0 m (pc + 1) ls (.int (σ 37 i j) :: rest))) : W p l e R s m args below meth c H locs cells slots Q (F0 m pc ls (.int x :: .ref (ad (pMtOrder i)) :: rest)) := by
  subst hj
  exact va_iald B.1 B.2.1 B.2.2.2.2.2.1 hP (pMtOrder i) 0 (md_w_MtOrder h) rfl hin hdg kk
theorem is_MtOrder (B : ed_B p s m args meth c cc own nL D ca) (hP : va_P D vwCl (md_w ad ca σ) H) (hD : va_D A (md_w ad ca σ)) (hS : va_S A s.heap H locs) (h : i < 1) (hin : vp_in x 8) (hj : x.toNatClampNeg = j) (eq : σ1 = ed_st σ 37 i j v) (hdg : decode cc pc = .ok (.iastore, 1))
    (kk : ∀ (H1 : Heap) (locs1 : List Loc), va_P D vwCl (md_w ad ca σ1) H1 → va_D A (md_w ad ca σ1) → va_S A s.heap H1 locs1 → W p l e R s m args below meth c H1 locs1 cells slots Q (F0 m (pc + 1) ls rest)) : W p l e R s m args below meth c H locs cells slots Q (F0 m pc ls (.int v :: .int x :: .ref (ad (pMtOrder i)) :: rest)) := by
  subst eq
  subst hj
  refine va_iast B.1 B.2.1 B.2.2.2.2.2.1 hP hD hS (pMtOrder i) 0 (md_w_MtOrder h) rfl hin hdg (fun H1 locs1 hP1 hD1 hS1 => ?_)
  have q0 := md_w_set (ad := ad) (ca := ca) (σ := σ) (σ2 := ed_st σ 37 i x.toNatClampNeg v) (md_lt_MtOrder h) (md_ct_MtOrder h) (fun z hl hz => md_ct_st hl hz)
  have q1 : cMtOrder ad ca (ed_st σ 37 i x.toNatClampNeg v) i = .inl (ca 0, 8, .inl (upd (fun j => σ 37 i j) x.toNatClampNeg v)) := by
    show Sum.inl (ca 0, 8, Sum.inl _) = Sum.inl (ca 0, 8, Sum.inl _)
    congr 3
    refine congrArg Sum.inl ?_
    funext j
    simp [ed_st, upd]
  rw [q1] at q0
  rw [q0] at hP1 hD1
  exact kk H1 locs1 hP1 hD1 hS1
theorem an_MtOrder (B : ed_B p s m args meth c cc own nL D ca) (hP : va_P D vwCl (md_w ad ca σ) H) (h : i < 1) (hdg : decode cc pc = .ok (.arraylength, 1))
    (kk : W p l e R s m args below meth c H locs cells slots Q (F0 m (pc + 1) ls (.int (nI 8) :: rest))) : W p l e R s m args below meth c H locs cells slots Q (F0 m pc ls (.ref (ad (pMtOrder i)) :: rest)) :=
  va_alen B.1 B.2.1 B.2.2.2.2.2.1 hP (pMtOrder i) 0 (md_w_MtOrder h) rfl rfl hdg kk
theorem il_MtCancel (B : ed_B p s m args meth c cc own nL D ca) (hP : va_P D vwCl (md_w ad ca σ) H) (h : i < 1) (hin : vp_in x 8) (hj : x.toNatClampNeg = j) (hdg : decode cc pc = .ok (.baload, 1))
    (kk : W p l e R s m args below meth c H locs cells slots Q (F0 m (pc + 1) ls (.int (σ 38 i j) :: rest))) : W p l e R s m args below meth c H locs cells slots Q (F0 m pc ls (.int x :: .ref (ad (pMtCancel i)) :: rest)) := by
  subst hj
  exact va_zald B.1 B.2.1 B.2.2.2.2.2.1 hP (pMtCancel i) 6 (md_w_MtCancel h) rfl hin hdg kk
theorem is_MtCancel (B : ed_B p s m args meth c cc own nL D ca) (hP : va_P D vwCl (md_w ad ca σ) H) (hD : va_D A (md_w ad ca σ)) (hS : va_S A s.heap H locs) (h : i < 1) (hin : vp_in x 8) (hj : x.toNatClampNeg = j) (z : v = 0 ∨ v = 1) (eq : σ1 = ed_st σ 38 i j v) (hdg : decode cc pc = .ok (.bastore, 1))
    (kk : ∀ (H1 : Heap) (locs1 : List Loc), va_P D vwCl (md_w ad ca σ1) H1 → va_D A (md_w ad ca σ1) → va_S A s.heap H1 locs1 → W p l e R s m args below meth c H1 locs1 cells slots Q (F0 m (pc + 1) ls rest)) : W p l e R s m args below meth c H locs cells slots Q (F0 m pc ls (.int v :: .int x :: .ref (ad (pMtCancel i)) :: rest)) := by
  subst eq
  subst hj
  refine va_zast B.1 B.2.1 B.2.2.2.2.2.1 hP hD hS (pMtCancel i) 6 (md_w_MtCancel h) rfl hin hdg (fun H1 locs1 hP1 hD1 hS1 => ?_)
  have hz : vp_nar .boolean v = v := by rcases z with rfl | rfl <;> rfl
  rw [hz] at hP1 hD1
  have q0 := md_w_set (ad := ad) (ca := ca) (σ := σ) (σ2 := ed_st σ 38 i x.toNatClampNeg v) (md_lt_MtCancel h) (md_ct_MtCancel h) (fun z hl hz => md_ct_st hl hz)
  have q1 : cMtCancel ad ca (ed_st σ 38 i x.toNatClampNeg v) i = .inl (ca 6, 8, .inl (upd (fun j => σ 38 i j) x.toNatClampNeg v)) := by
    show Sum.inl (ca 6, 8, Sum.inl _) = Sum.inl (ca 6, 8, Sum.inl _)
    congr 3
    refine congrArg Sum.inl ?_
    funext j
    simp [ed_st, upd]
  rw [q1] at q0
  rw [q0] at hP1 hD1
  exact kk H1 locs1 hP1 hD1 hS1
theorem an_MtCancel (B : ed_B p s m args meth c cc own nL D ca) (hP : va_P D vwCl (md_w ad ca σ) H) (h : i < 1) (hdg : decode cc pc = .ok (.arraylength, 1))
    (kk : W p l e R s m args below meth c H locs cells slots Q (F0 m (pc + 1) ls (.int (nI 8) :: rest))) : W p l e R s m args below meth c H locs cells slots Q (F0 m pc ls (.ref (ad (pMtCancel i)) :: rest)) :=
  va_alen B.1 B.2.1 B.2.2.2.2.2.1 hP (pMtCancel i) 6 (md_w_MtCancel h) rfl rfl hdg kk
theorem il_MtAgain (B : ed_B p s m args meth c cc own nL D ca) (hP : va_P D vwCl (md_w ad ca σ) H) (h : i < 1) (hin : vp_in x 8) (hj : x.toNatClampNeg = j) (hdg : decode cc pc = .ok (.baload, 1))
    (kk : W p l e R s m args below meth c H locs cells slots Q (F0 m (pc + 1) ls (.int (σ 39 i j) :: rest))) : W p l e R s m args below meth c H locs cells slots Q (F0 m pc ls (.int x :: .ref (ad (pMtAgain i)) :: rest)) := by
  subst hj
  exact va_zald B.1 B.2.1 B.2.2.2.2.2.1 hP (pMtAgain i) 6 (md_w_MtAgain h) rfl hin hdg kk
theorem is_MtAgain (B : ed_B p s m args meth c cc own nL D ca) (hP : va_P D vwCl (md_w ad ca σ) H) (hD : va_D A (md_w ad ca σ)) (hS : va_S A s.heap H locs) (h : i < 1) (hin : vp_in x 8) (hj : x.toNatClampNeg = j) (z : v = 0 ∨ v = 1) (eq : σ1 = ed_st σ 39 i j v) (hdg : decode cc pc = .ok (.bastore, 1))
    (kk : ∀ (H1 : Heap) (locs1 : List Loc), va_P D vwCl (md_w ad ca σ1) H1 → va_D A (md_w ad ca σ1) → va_S A s.heap H1 locs1 → W p l e R s m args below meth c H1 locs1 cells slots Q (F0 m (pc + 1) ls rest)) : W p l e R s m args below meth c H locs cells slots Q (F0 m pc ls (.int v :: .int x :: .ref (ad (pMtAgain i)) :: rest)) := by
  subst eq
  subst hj
  refine va_zast B.1 B.2.1 B.2.2.2.2.2.1 hP hD hS (pMtAgain i) 6 (md_w_MtAgain h) rfl hin hdg (fun H1 locs1 hP1 hD1 hS1 => ?_)
  have hz : vp_nar .boolean v = v := by rcases z with rfl | rfl <;> rfl
  rw [hz] at hP1 hD1
  have q0 := md_w_set (ad := ad) (ca := ca) (σ := σ) (σ2 := ed_st σ 39 i x.toNatClampNeg v) (md_lt_MtAgain h) (md_ct_MtAgain h) (fun z hl hz => md_ct_st hl hz)
  have q1 : cMtAgain ad ca (ed_st σ 39 i x.toNatClampNeg v) i = .inl (ca 6, 8, .inl (upd (fun j => σ 39 i j) x.toNatClampNeg v)) := by
    show Sum.inl (ca 6, 8, Sum.inl _) = Sum.inl (ca 6, 8, Sum.inl _)
    congr 3
    refine congrArg Sum.inl ?_
    funext j
    simp [ed_st, upd]
  rw [q1] at q0
  rw [q0] at hP1 hD1
  exact kk H1 locs1 hP1 hD1 hS1
theorem an_MtAgain (B : ed_B p s m args meth c cc own nL D ca) (hP : va_P D vwCl (md_w ad ca σ) H) (h : i < 1) (hdg : decode cc pc = .ok (.arraylength, 1))
    (kk : W p l e R s m args below meth c H locs cells slots Q (F0 m (pc + 1) ls (.int (nI 8) :: rest))) : W p l e R s m args below meth c H locs cells slots Q (F0 m pc ls (.ref (ad (pMtAgain i)) :: rest)) :=
  va_alen B.1 B.2.1 B.2.2.2.2.2.1 hP (pMtAgain i) 6 (md_w_MtAgain h) rfl rfl hdg kk
theorem il_Mwaiting (B : ed_B p s m args meth c cc own nL D ca) (hP : va_P D vwCl (md_w ad ca σ) H) (h : i < 1) (hin : vp_in x 8) (hj : x.toNatClampNeg = j) (hdg : decode cc pc = .ok (.iaload, 1))
    (kk : W p l e R s m args below meth c H locs cells slots Q (F0 m (pc + 1) ls (.int (σ 40 i j) :: rest))) : W p l e R s m args below meth c H locs cells slots Q (F0 m pc ls (.int x :: .ref (ad (pMwaiting i)) :: rest)) := by
  subst hj
  exact va_iald B.1 B.2.1 B.2.2.2.2.2.1 hP (pMwaiting i) 0 (md_w_Mwaiting h) rfl hin hdg kk
theorem is_Mwaiting (B : ed_B p s m args meth c cc own nL D ca) (hP : va_P D vwCl (md_w ad ca σ) H) (hD : va_D A (md_w ad ca σ)) (hS : va_S A s.heap H locs) (h : i < 1) (hin : vp_in x 8) (hj : x.toNatClampNeg = j) (eq : σ1 = ed_st σ 40 i j v) (hdg : decode cc pc = .ok (.iastore, 1))
    (kk : ∀ (H1 : Heap) (locs1 : List Loc), va_P D vwCl (md_w ad ca σ1) H1 → va_D A (md_w ad ca σ1) → va_S A s.heap H1 locs1 → W p l e R s m args below meth c H1 locs1 cells slots Q (F0 m (pc + 1) ls rest)) : W p l e R s m args below meth c H locs cells slots Q (F0 m pc ls (.int v :: .int x :: .ref (ad (pMwaiting i)) :: rest)) := by
  subst eq
  subst hj
  refine va_iast B.1 B.2.1 B.2.2.2.2.2.1 hP hD hS (pMwaiting i) 0 (md_w_Mwaiting h) rfl hin hdg (fun H1 locs1 hP1 hD1 hS1 => ?_)
  have q0 := md_w_set (ad := ad) (ca := ca) (σ := σ) (σ2 := ed_st σ 40 i x.toNatClampNeg v) (md_lt_Mwaiting h) (md_ct_Mwaiting h) (fun z hl hz => md_ct_st hl hz)
  have q1 : cMwaiting ad ca (ed_st σ 40 i x.toNatClampNeg v) i = .inl (ca 0, 8, .inl (upd (fun j => σ 40 i j) x.toNatClampNeg v)) := by
    show Sum.inl (ca 0, 8, Sum.inl _) = Sum.inl (ca 0, 8, Sum.inl _)
    congr 3
    refine congrArg Sum.inl ?_
    funext j
    simp [ed_st, upd]
  rw [q1] at q0
  rw [q0] at hP1 hD1
  exact kk H1 locs1 hP1 hD1 hS1
theorem an_Mwaiting (B : ed_B p s m args meth c cc own nL D ca) (hP : va_P D vwCl (md_w ad ca σ) H) (h : i < 1) (hdg : decode cc pc = .ok (.arraylength, 1))
    (kk : W p l e R s m args below meth c H locs cells slots Q (F0 m (pc + 1) ls (.int (nI 8) :: rest))) : W p l e R s m args below meth c H locs cells slots Q (F0 m pc ls (.ref (ad (pMwaiting i)) :: rest)) :=
  va_alen B.1 B.2.1 B.2.2.2.2.2.1 hP (pMwaiting i) 0 (md_w_Mwaiting h) rfl rfl hdg kk
theorem il_MwaitingWell (B : ed_B p s m args meth c cc own nL D ca) (hP : va_P D vwCl (md_w ad ca σ) H) (h : i < 1) (hin : vp_in x 8) (hj : x.toNatClampNeg = j) (hdg : decode cc pc = .ok (.baload, 1))
    (kk : W p l e R s m args below meth c H locs cells slots Q (F0 m (pc + 1) ls (.int (σ 41 i j) :: rest))) : W p l e R s m args below meth c H locs cells slots Q (F0 m pc ls (.int x :: .ref (ad (pMwaitingWell i)) :: rest)) := by
  subst hj
  exact va_zald B.1 B.2.1 B.2.2.2.2.2.1 hP (pMwaitingWell i) 6 (md_w_MwaitingWell h) rfl hin hdg kk
theorem is_MwaitingWell (B : ed_B p s m args meth c cc own nL D ca) (hP : va_P D vwCl (md_w ad ca σ) H) (hD : va_D A (md_w ad ca σ)) (hS : va_S A s.heap H locs) (h : i < 1) (hin : vp_in x 8) (hj : x.toNatClampNeg = j) (z : v = 0 ∨ v = 1) (eq : σ1 = ed_st σ 41 i j v) (hdg : decode cc pc = .ok (.bastore, 1))
    (kk : ∀ (H1 : Heap) (locs1 : List Loc), va_P D vwCl (md_w ad ca σ1) H1 → va_D A (md_w ad ca σ1) → va_S A s.heap H1 locs1 → W p l e R s m args below meth c H1 locs1 cells slots Q (F0 m (pc + 1) ls rest)) : W p l e R s m args below meth c H locs cells slots Q (F0 m pc ls (.int v :: .int x :: .ref (ad (pMwaitingWell i)) :: rest)) := by
  subst eq
  subst hj
  refine va_zast B.1 B.2.1 B.2.2.2.2.2.1 hP hD hS (pMwaitingWell i) 6 (md_w_MwaitingWell h) rfl hin hdg (fun H1 locs1 hP1 hD1 hS1 => ?_)
  have hz : vp_nar .boolean v = v := by rcases z with rfl | rfl <;> rfl
  rw [hz] at hP1 hD1
  have q0 := md_w_set (ad := ad) (ca := ca) (σ := σ) (σ2 := ed_st σ 41 i x.toNatClampNeg v) (md_lt_MwaitingWell h) (md_ct_MwaitingWell h) (fun z hl hz => md_ct_st hl hz)
  have q1 : cMwaitingWell ad ca (ed_st σ 41 i x.toNatClampNeg v) i = .inl (ca 6, 8, .inl (upd (fun j => σ 41 i j) x.toNatClampNeg v)) := by
    show Sum.inl (ca 6, 8, Sum.inl _) = Sum.inl (ca 6, 8, Sum.inl _)
    congr 3
    refine congrArg Sum.inl ?_
    funext j
    simp [ed_st, upd]
  rw [q1] at q0
  rw [q0] at hP1 hD1
  exact kk H1 locs1 hP1 hD1 hS1
theorem an_MwaitingWell (B : ed_B p s m args meth c cc own nL D ca) (hP : va_P D vwCl (md_w ad ca σ) H) (h : i < 1) (hdg : decode cc pc = .ok (.arraylength, 1))
    (kk : W p l e R s m args below meth c H locs cells slots Q (F0 m (pc + 1) ls (.int (nI 8) :: rest))) : W p l e R s m args below meth c H locs cells slots Q (F0 m pc ls (.ref (ad (pMwaitingWell i)) :: rest)) :=
  va_alen B.1 B.2.1 B.2.2.2.2.2.1 hP (pMwaitingWell i) 6 (md_w_MwaitingWell h) rfl rfl hdg kk
end EDF
