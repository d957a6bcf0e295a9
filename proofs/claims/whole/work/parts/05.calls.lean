def MtV (y : MethodName) (b : ByteArray) (n : Nat) (rt : Option FieldType) (k : Nat) : Prop := Cond.instanceMethod y ∈ TB ∧ Cond.selects y.cls y y ∈ TB ∧ Cond.initialized y.cls ∈ TB ∧ Cond.code y b n rt ∈ TB ∧ (y.cls ≠ "java/lang/invoke/MethodHandle" ∧ y.cls ≠ "java/lang/invoke/VarHandle" ∧ (parseMethodDescriptor y.desc).map (fun d => d.parameters.length) = some k)
def MtS (y : MethodName) (b : ByteArray) (n : Nat) (rt : Option FieldType) (k : Nat) : Prop := Cond.static y ∈ TB ∧ Cond.initialized y.cls ∈ TB ∧ Cond.code y b n rt ∈ TB ∧ (y.cls ≠ "java/lang/invoke/MethodHandle" ∧ y.cls ≠ "java/lang/invoke/VarHandle" ∧ (parseMethodDescriptor y.desc).map (fun d => d.parameters.length) = some k)
def RmOk (rm R : Room) (n : Nat) : Prop := rm.cells = 0 ∧ rm.slots = 0 ∧ rm.frames + 1 ≤ R.frames ∧ 8 + (n + 11) + rm.locals ≤ R.locals
theorem good_cons {y : MethodName} {b : ByteArray} {n : Nat} {rt : Option FieldType} (h : Cond.code y b n rt ∈ TB) : GoodIn TB (Cond.code y b n rt :: TB) := fun w hw => by
  rcases List.mem_cons.mp hw with rfl | hw
  · exact tb_good _ h
  · exact tb_good _ hw
section CORE2
variable {p : Program} {l : Launch} {e : Env} {R : Room} {s : State} {m : MethodId} {args : Array Value} {below : List Frame} {meth : Method} {c : Code} {H : Heap} {locs : List Loc} {cells slots : Nat} {Q : State → Prop} {G : GP} {A : Nat → Prop} {cc : ByteArray} {nL : Nat} {own : String} {rt : Option FieldType} {y : MethodName} {b : ByteArray} {n : Nat} {rm : Room} {w w' : va_W} {av : List Value} {r : Int32}
theorem CtI.of (hy : plainName y.cls = true) (hn : (lg_sl av).length ≤ n) (body : ∀ (p : Program) (e : Env) (s : State) (m : MethodId) (below : List Frame) (meth : Method) (c : Code) (A : Nat → Prop) (ls : Array Slot), Cx p s m av.toArray meth c A G b n y.cls rt → lv_has ls n (lv_args 0 av) → Wx G A w s s.heap [] → W p l e rm s m av.toArray below meth c s.heap [] 0 0 (MQ below (QI G A w' r) av.toArray s 0 0 A) (F0 m 0 ls [])) : CtI l y b n rt rm G w av r w' := by
  intro sz
  refine Met.ofW (cc := b) (maxL := n) (ret := rt) hy rfl ?_
  intro p e s m args below meth c s₁ B hml hv
  obtain ⟨rfl, hsz, hW, hE⟩ := hv
  subst hsz
  have hts := atoms_spec (ws := Cond.code y b n rt :: TB) B.pre
  have hown : s.vm.findClass y.cls = some m.cls := findClass_of_methodNamed B.named
  have hl := lv_entry av (n := n) hn
  rw [lg_entry_eq]
  exact body p e s m below meth c (va_A w s.heap.size) _ ⟨⟨B.exec, B.bytes, hml, hown, fun w h => hts w (List.mem_cons_of_mem _ h)⟩, B.returns, B.notSynchronized, fun q h => Or.inr h, hE⟩ hl ⟨⟨hW.1, hW.2.1, hW.2.2.self⟩, va_S.rf⟩
theorem CtV.of (hy : plainName y.cls = true) (hn : (lg_sl av).length ≤ n) (body : ∀ (p : Program) (e : Env) (s : State) (m : MethodId) (below : List Frame) (meth : Method) (c : Code) (A : Nat → Prop) (ls : Array Slot), Cx p s m av.toArray meth c A G b n y.cls none → lv_has ls n (lv_args 0 av) → Wx G A w s s.heap [] → W p l e rm s m av.toArray below meth c s.heap [] 0 0 (MQ below (QV G A w') av.toArray s 0 0 A) (F0 m 0 ls [])) : CtV l y b n rm G w av w' := by
  intro sz
  refine Met.ofW (cc := b) (maxL := n) (ret := none) hy rfl ?_
  intro p e s m args below meth c s₁ B hml hv
  obtain ⟨rfl, hsz, hW, hE⟩ := hv
  subst hsz
  have hts := atoms_spec (ws := Cond.code y b n none :: TB) B.pre
  have hown : s.vm.findClass y.cls = some m.cls := findClass_of_methodNamed B.named
  have hl := lv_entry av (n := n) hn
  rw [lg_entry_eq]
  exact body p e s m below meth c (va_A w s.heap.size) _ ⟨⟨B.exec, B.bytes, hml, hown, fun w h => hts w (List.mem_cons_of_mem _ h)⟩, B.returns, B.notSynchronized, fun q h => Or.inr h, hE⟩ hl ⟨⟨hW.1, hW.2.1, hW.2.2.self⟩, va_S.rf⟩
theorem CtR.of {ra : Nat} (hy : plainName y.cls = true) (hn : (lg_sl av).length ≤ n) (body : ∀ (p : Program) (e : Env) (s : State) (m : MethodId) (below : List Frame) (meth : Method) (c : Code) (A : Nat → Prop) (ls : Array Slot), Cx p s m av.toArray meth c A G b n y.cls rt → lv_has ls n (lv_args 0 av) → Wx G A w s s.heap [] → W p l e rm s m av.toArray below meth c s.heap [] 0 0 (MQ below (QR G A w' ra) av.toArray s 0 0 A) (F0 m 0 ls [])) : CtR l y b n rt rm G w av ra w' := by
  intro sz
  refine Met.ofW (cc := b) (maxL := n) (ret := rt) hy rfl ?_
  intro p e s m args below meth c s₁ B hml hv
  obtain ⟨rfl, hsz, hW, hE⟩ := hv
  subst hsz
  have hts := atoms_spec (ws := Cond.code y b n rt :: TB) B.pre
  have hown : s.vm.findClass y.cls = some m.cls := findClass_of_methodNamed B.named
  have hl := lv_entry av (n := n) hn
  rw [lg_entry_eq]
  exact body p e s m below meth c (va_A w s.heap.size) _ ⟨⟨B.exec, B.bytes, hml, hown, fun w h => hts w (List.mem_cons_of_mem _ h)⟩, B.returns, B.notSynchronized, fun q h => Or.inr h, hE⟩ hl ⟨⟨hW.1, hW.2.1, hW.2.2.self⟩, va_S.rf⟩
variable {pc : Nat} {ls : Array Slot} {v : Int32}
theorem retI (K : Cx p s m args meth c A G cc nL own (some .int)) (hw : Wx G A w' s H locs) (hv : v = r) (hd : decode cc pc = .ok (.ireturn, 1)) : W p l e R s m args below meth c H locs 0 0 (MQ below (QI G A w' r) args s 0 0 A) (F0 m pc ls [.int v]) := by
  subst hv
  exact W.iret K.1.1 K.1.2.1 K.2.1 (fun t ht hW => ⟨⟨v, (), rfl, rfl, by show Wd G A w' t t.heap; rw [ht]; exact hw.1.moved hW.alike⟩, hw.2.F ht⟩) hw.2.2.2 hd K.2.2.1
theorem retZ {ty : FieldType} (K : Cx p s m args meth c A G cc nL own (some ty)) (hw : Wx G A w' s H locs) (hn : narrow ty (.int v) = .int v) (hv : v = r) (hd : decode cc pc = .ok (.ireturn, 1)) : W p l e R s m args below meth c H locs 0 0 (MQ below (QI G A w' r) args s 0 0 A) (F0 m pc ls [.int v]) := by
  subst hv
  exact W.zret K.1.1 K.1.2.1 K.2.1 hn (fun t ht hW => ⟨⟨v, (), rfl, rfl, by show Wd G A w' t t.heap; rw [ht]; exact hw.1.moved hW.alike⟩, hw.2.F ht⟩) hw.2.2.2 hd K.2.2.1
theorem retV (K : Cx p s m args meth c A G cc nL own none) (hw : Wx G A w' s H locs) (hd : decode cc pc = .ok (.return_, 1)) : W p l e R s m args below meth c H locs 0 0 (MQ below (QV G A w') args s 0 0 A) (F0 m pc ls []) := by
  exact W.vret K.1.1 K.1.2.1 K.2.1 (fun t ht hW => ⟨⟨(), rfl, trivial, by show Wd G A w' t t.heap; rw [ht]; exact hw.1.moved hW.alike⟩, hw.2.F ht⟩) hw.2.2.2 hd K.2.2.1
variable {rest st0 As : List Value} {ws wa wb : va_W}
theorem aftI {a0 : Array Value} (hr : va_Run p l e R s m args below meth c H locs cells slots 0 0 (F0 m pc ls st0) rest (QI G (va_A w H.size) w' r a0) (va_A w H.size)) (hww : ws = wa ++ (w ++ wb)) (hw : Wx G A ws s H locs) (hA : ∀ q, s.heap.size ≤ q → A q)
    (k : ∀ (H1 : Heap) (locs1 : List Loc), Wx G A (wa ++ (w' ++ wb)) s H1 locs1 → W p l e R s m args below meth c H1 locs1 cells slots Q (F0 m (pc + 3) ls (.int r :: rest))) : W p l e R s m args below meth c H locs cells slots Q (F0 m pc ls st0) := by
  subst hww
  have hF := hw.free hA
  refine va_calli hr hw.2 (fun q _ h => hF q h) hF ?_
  intro r1 u t H1 locs1 ht hvm hp hB hz hk hS
  subst hp
  rw [ht] at hB
  exact k H1 locs1 (hw.back hA hvm hk hS hB)
theorem aftV {a0 : Array Value} (hr : va_Run p l e R s m args below meth c H locs cells slots 0 0 (F0 m pc ls st0) rest (QV G (va_A w H.size) w' a0) (va_A w H.size)) (hww : ws = wa ++ (w ++ wb)) (hw : Wx G A ws s H locs) (hA : ∀ q, s.heap.size ≤ q → A q)
    (k : ∀ (H1 : Heap) (locs1 : List Loc), Wx G A (wa ++ (w' ++ wb)) s H1 locs1 → W p l e R s m args below meth c H1 locs1 cells slots Q (F0 m (pc + 3) ls rest)) : W p l e R s m args below meth c H locs cells slots Q (F0 m pc ls st0) := by
  subst hww
  have hF := hw.free hA
  refine va_callv hr hw.2 (fun q _ h => hF q h) hF ?_
  intro u t H1 locs1 ht hvm hp hB hz hk hS
  rw [ht] at hB
  exact k H1 locs1 (hw.back hA hvm hk hS hB)
theorem aftR {a0 : Array Value} {ra : Nat} (hr : va_Run p l e R s m args below meth c H locs cells slots 0 0 (F0 m pc ls st0) rest (QR G (va_A w H.size) w' ra a0) (va_A w H.size)) (hww : ws = wa ++ (w ++ wb)) (hw : Wx G A ws s H locs) (hA : ∀ q, s.heap.size ≤ q → A q)
    (k : ∀ (H1 : Heap) (locs1 : List Loc), Wx G A (wa ++ (w' ++ wb)) s H1 locs1 → W p l e R s m args below meth c H1 locs1 cells slots Q (F0 m (pc + 3) ls (.ref ra :: rest))) : W p l e R s m args below meth c H locs cells slots Q (F0 m pc ls st0) := by
  subst hww
  have hF := hw.free hA
  refine va_callr hr hw.2 (fun q _ h => hF q h) hF ?_
  intro u ra1 t H1 locs1 ht hvm hp hB hz hk hS
  obtain ⟨rfl, hB⟩ := hB
  rw [ht] at hB
  exact k H1 locs1 (hw.back hA hvm hk hS hB)
/-- what a callee's start asks -/
theorem pre_of (K : Cx p s m args meth c A G cc nL own rt) (hww : ws = wa ++ (w ++ wb)) (hw : Wx G A ws s H locs) : ∀ U : State, U.heap = H → s.WarmedH U.vm → PcS G w H.size av av.toArray U := by
  subst hww
  intro U hU hW
  have hF := hw.free K.2.2.2.1
  refine ⟨rfl, by rw [hU], ?_, ?_⟩
  · rw [hU]; exact (hw.1.mid.any).moved hW.alike
  · rw [hU]; exact ((K.2.2.2.2.kept hw.2.2.1).narrow hF).warm hW
variable {idx k : Nat} {Qc : Array Value → State → Outcome → State → Prop} {free : Addr → Prop}
theorem runV {a : Nat} (K : Cx p s m args meth c A G cc nL own rt) {rt2 : Option FieldType} (hM : Met l y (Cond.code y b n rt2 :: TB) rm (PcS G w H.size (.ref a :: As)) Qc 0 0 free) (mt : MtV y b n rt2 k) (lk : Cond.methodLink own idx y ∈ TB) (hR : RmOk rm R n) (hww : ws = wa ++ (w ++ wb)) (hw : Wx G A ws s H locs) {ci N : Nat} {T : u_T} {fs : List Value} {w0 : va_W} (hrv : w = (a, .inr (ci, fs)) :: w0) (hcl : vwCl[ci]? = some (y.cls, T, N)) (hst : st0 = As.reverse ++ .ref a :: rest) (hn : As.length = k) (hsz : ls.size = nL) (hroom : (rest.map fun v => v.category).sum ≤ 8) (hd : decode cc pc = .ok (.invokevirtual idx, 3)) (hf : cells ≤ R.cells ∧ slots ≤ R.slots) :
    va_Run p l e R s m args below meth c H locs cells slots 0 0 (F0 m pc ls st0) rest (Qc (Value.ref a :: As).toArray) free := by
  subst hst
  have hpre := pre_of (av := .ref a :: As) K hww hw
  subst hww
  obtain ⟨m1, m2, m3, m4, m5⟩ := mt
  have hts := K.1.2.2.2.2
  refine va_runV (n := k) K.1 hM ⟨callB_of k hts (good_cons m4) rfl hR.1 hR.2.1 (hts _ m3) (hts _ lk) m5 ⟨hR.2.2.1, hR.2.2.2⟩, hts _ m1, hts _ m2⟩ ⟨PcS.blind, ?_, hpre⟩ rfl hn hsz rfl (lv_room hroom) hd hf
  have hm := hw.1.mid
  exact va_recv hm.1 hm.2.1 hcl (q0 := 0) (by rw [hrv]; rfl)
theorem runS (K : Cx p s m args meth c A G cc nL own rt) {rt2 : Option FieldType} (hM : Met l y (Cond.code y b n rt2 :: TB) rm (PcS G w H.size As) Qc 0 0 free) (mt : MtS y b n rt2 k) (lk : Cond.methodLink own idx y ∈ TB) (hR : RmOk rm R n) (hww : ws = wa ++ (w ++ wb)) (hw : Wx G A ws s H locs) (hst : st0 = As.reverse ++ rest) (hn : As.length = k) (hsz : ls.size = nL) (hroom : (rest.map fun v => v.category).sum ≤ 8) (hd : decode cc pc = .ok (.invokestatic idx, 3)) (hf : cells ≤ R.cells ∧ slots ≤ R.slots) :
    va_Run p l e R s m args below meth c H locs cells slots 0 0 (F0 m pc ls st0) rest (Qc As.toArray) free := by
  subst hst
  have hpre := pre_of (av := As) K hww hw
  obtain ⟨m1, m3, m4, m5⟩ := mt
  have hts := K.1.2.2.2.2
  exact va_runS (n := k) K.1 hM ⟨callB_of k hts (good_cons m4) rfl hR.1 hR.2.1 (hts _ m3) (hts _ lk) m5 ⟨hR.2.2.1, hR.2.2.2⟩, hts _ m1⟩ ⟨PcS.blind, hpre⟩ rfl hn hsz rfl (lv_room hroom) hd hf
theorem runSN {host : String} (K : Cx p s m args meth c A G cc nL own rt) {rt2 : Option FieldType} (hM : Met l y (Cond.code y b n rt2 :: TB) rm (PcS G w H.size As) Qc 0 0 free) (mt : MtS y b n rt2 k) (lk : (own, idx, y, host) ∈ NM) (hR : RmOk rm R n) (hww : ws = wa ++ (w ++ wb)) (hw : Wx G A ws s H locs) (hst : st0 = As.reverse ++ rest) (hn : As.length = k) (hsz : ls.size = nL) (hroom : (rest.map fun v => v.category).sum ≤ 8) (hd : decode cc pc = .ok (.invokestatic idx, 3)) (hf : cells ≤ R.cells ∧ slots ≤ R.slots) :
    va_Run p l e R s m args below meth c H locs cells slots 0 0 (F0 m pc ls st0) rest (Qc As.toArray) free := by
  subst hst
  have hpre := pre_of (av := As) K hww hw
  obtain ⟨m1, m3, m4, m5⟩ := mt
  have hts := K.1.2.2.2.2
  exact va_runSN (n := k) K.1 hM ⟨va_cnB k hts (good_cons m4) rfl hR.1 hR.2.1 (K.2.2.2.2.2.1 _ lk) (hts _ m3) m5 ⟨hR.2.2.1, hR.2.2.2⟩, hts _ m1, trivial⟩ ⟨PcS.blind, hpre⟩ rfl hn hsz rfl (lv_room hroom) hd hf
theorem callVI {a : Nat} (K : Cx p s m args meth c A G cc nL own rt) {rt2 : Option FieldType} (hM : CtI l y b n rt2 rm G w (.ref a :: As) r w') (mt : MtV y b n rt2 k) (lk : Cond.methodLink own idx y ∈ TB) (hR : RmOk rm R n) (hw : Wx G A ws s H locs) (hd : decode cc pc = .ok (.invokevirtual idx, 3)) (hsz : ls.size = nL) (hf : cells ≤ R.cells ∧ slots ≤ R.slots) (hww : ws = wa ++ (w ++ wb)) {ci N : Nat} {T : u_T} {fs : List Value} {w0 : va_W} (hrv : w = (a, .inr (ci, fs)) :: w0) (hcl : vwCl[ci]? = some (y.cls, T, N)) (hst : st0 = As.reverse ++ .ref a :: rest) (hn : As.length = k) (hroom : (rest.map fun v => v.category).sum ≤ 8)
    (kk : ∀ (H1 : Heap) (locs1 : List Loc), Wx G A (wa ++ (w' ++ wb)) s H1 locs1 → W p l e R s m args below meth c H1 locs1 cells slots Q (F0 m (pc + 3) ls (.int r :: rest))) : W p l e R s m args below meth c H locs cells slots Q (F0 m pc ls st0) :=
  aftI (runV K (hM H.size) mt lk hR hww hw hrv hcl hst hn hsz hroom hd hf) hww hw K.2.2.2.1 kk
theorem callVV {a : Nat} (K : Cx p s m args meth c A G cc nL own rt) (hM : CtV l y b n rm G w (.ref a :: As) w') (mt : MtV y b n none k) (lk : Cond.methodLink own idx y ∈ TB) (hR : RmOk rm R n) (hw : Wx G A ws s H locs) (hd : decode cc pc = .ok (.invokevirtual idx, 3)) (hsz : ls.size = nL) (hf : cells ≤ R.cells ∧ slots ≤ R.slots) (hww : ws = wa ++ (w ++ wb)) {ci N : Nat} {T : u_T} {fs : List Value} {w0 : va_W} (hrv : w = (a, .inr (ci, fs)) :: w0) (hcl : vwCl[ci]? = some (y.cls, T, N)) (hst : st0 = As.reverse ++ .ref a :: rest) (hn : As.length = k) (hroom : (rest.map fun v => v.category).sum ≤ 8)
    (kk : ∀ (H1 : Heap) (locs1 : List Loc), Wx G A (wa ++ (w' ++ wb)) s H1 locs1 → W p l e R s m args below meth c H1 locs1 cells slots Q (F0 m (pc + 3) ls rest)) : W p l e R s m args below meth c H locs cells slots Q (F0 m pc ls st0) :=
  aftV (runV K (hM H.size) mt lk hR hww hw hrv hcl hst hn hsz hroom hd hf) hww hw K.2.2.2.1 kk
theorem callSI (K : Cx p s m args meth c A G cc nL own rt) {rt2 : Option FieldType} (hM : CtI l y b n rt2 rm G w As r w') (mt : MtS y b n rt2 k) (lk : Cond.methodLink own idx y ∈ TB) (hR : RmOk rm R n) (hw : Wx G A ws s H locs) (hd : decode cc pc = .ok (.invokestatic idx, 3)) (hsz : ls.size = nL) (hf : cells ≤ R.cells ∧ slots ≤ R.slots) (hww : ws = wa ++ (w ++ wb)) (hst : st0 = As.reverse ++ rest) (hn : As.length = k) (hroom : (rest.map fun v => v.category).sum ≤ 8)
    (kk : ∀ (H1 : Heap) (locs1 : List Loc), Wx G A (wa ++ (w' ++ wb)) s H1 locs1 → W p l e R s m args below meth c H1 locs1 cells slots Q (F0 m (pc + 3) ls (.int r :: rest))) : W p l e R s m args below meth c H locs cells slots Q (F0 m pc ls st0) :=
  aftI (runS K (hM H.size) mt lk hR hww hw hst hn hsz hroom hd hf) hww hw K.2.2.2.1 kk
theorem callSV (K : Cx p s m args meth c A G cc nL own rt) (hM : CtV l y b n rm G w As w') (mt : MtS y b n none k) (lk : Cond.methodLink own idx y ∈ TB) (hR : RmOk rm R n) (hw : Wx G A ws s H locs) (hd : decode cc pc = .ok (.invokestatic idx, 3)) (hsz : ls.size = nL) (hf : cells ≤ R.cells ∧ slots ≤ R.slots) (hww : ws = wa ++ (w ++ wb)) (hst : st0 = As.reverse ++ rest) (hn : As.length = k) (hroom : (rest.map fun v => v.category).sum ≤ 8)
    (kk : ∀ (H1 : Heap) (locs1 : List Loc), Wx G A (wa ++ (w' ++ wb)) s H1 locs1 → W p l e R s m args below meth c H1 locs1 cells slots Q (F0 m (pc + 3) ls rest)) : W p l e R s m args below meth c H locs cells slots Q (F0 m pc ls st0) :=
  aftV (runS K (hM H.size) mt lk hR hww hw hst hn hsz hroom hd hf) hww hw K.2.2.2.1 kk
theorem callSR {ra : Nat} (K : Cx p s m args meth c A G cc nL own rt) {rt2 : Option FieldType} (hM : CtR l y b n rt2 rm G w As ra w') (mt : MtS y b n rt2 k) (lk : Cond.methodLink own idx y ∈ TB) (hR : RmOk rm R n) (hw : Wx G A ws s H locs) (hd : decode cc pc = .ok (.invokestatic idx, 3)) (hsz : ls.size = nL) (hf : cells ≤ R.cells ∧ slots ≤ R.slots) (hww : ws = wa ++ (w ++ wb)) (hst : st0 = As.reverse ++ rest) (hn : As.length = k) (hroom : (rest.map fun v => v.category).sum ≤ 8)
    (kk : ∀ (H1 : Heap) (locs1 : List Loc), Wx G A (wa ++ (w' ++ wb)) s H1 locs1 → W p l e R s m args below meth c H1 locs1 cells slots Q (F0 m (pc + 3) ls (.ref ra :: rest))) : W p l e R s m args below meth c H locs cells slots Q (F0 m pc ls st0) :=
  aftR (runS K (hM H.size) mt lk hR hww hw hst hn hsz hroom hd hf) hww hw K.2.2.2.1 kk
theorem callNI {host : String} (K : Cx p s m args meth c A G cc nL own rt) {rt2 : Option FieldType} (hM : CtI l y b n rt2 rm G w As r w') (mt : MtS y b n rt2 k) (lk : (own, idx, y, host) ∈ NM) (hR : RmOk rm R n) (hw : Wx G A ws s H locs) (hd : decode cc pc = .ok (.invokestatic idx, 3)) (hsz : ls.size = nL) (hf : cells ≤ R.cells ∧ slots ≤ R.slots) (hww : ws = wa ++ (w ++ wb)) (hst : st0 = As.reverse ++ rest) (hn : As.length = k) (hroom : (rest.map fun v => v.category).sum ≤ 8)
    (kk : ∀ (H1 : Heap) (locs1 : List Loc), Wx G A (wa ++ (w' ++ wb)) s H1 locs1 → W p l e R s m args below meth c H1 locs1 cells slots Q (F0 m (pc + 3) ls (.int r :: rest))) : W p l e R s m args below meth c H locs cells slots Q (F0 m pc ls st0) :=
  aftI (runSN K (hM H.size) mt lk hR hww hw hst hn hsz hroom hd hf) hww hw K.2.2.2.1 kk
theorem callNV {host : String} (K : Cx p s m args meth c A G cc nL own rt) (hM : CtV l y b n rm G w As w') (mt : MtS y b n none k) (lk : (own, idx, y, host) ∈ NM) (hR : RmOk rm R n) (hw : Wx G A ws s H locs) (hd : decode cc pc = .ok (.invokestatic idx, 3)) (hsz : ls.size = nL) (hf : cells ≤ R.cells ∧ slots ≤ R.slots) (hww : ws = wa ++ (w ++ wb)) (hst : st0 = As.reverse ++ rest) (hn : As.length = k) (hroom : (rest.map fun v => v.category).sum ≤ 8)
    (kk : ∀ (H1 : Heap) (locs1 : List Loc), Wx G A (wa ++ (w' ++ wb)) s H1 locs1 → W p l e R s m args below meth c H1 locs1 cells slots Q (F0 m (pc + 3) ls rest)) : W p l e R s m args below meth c H locs cells slots Q (F0 m pc ls st0) :=
  aftV (runSN K (hM H.size) mt lk hR hww hw hst hn hsz hroom hd hf) hww hw K.2.2.2.1 kk
/-- fields and arrays of int -/
theorem getX (K : Cx p s m args meth c A G cc nL own rt) (hw : Wx G A ws s H locs) {C : String} {T : u_T} {N ci : Nat} {ref : String} {a : Nat} (hin : ∀ w ∈ u_ws C T N, w ∈ TB) (q0 : Nat) {fs : List Value} (j : Nat) (lk : Cond.fieldLink own idx ref (T j).2.1 (T j).2.2.1 ∈ TB) (hd : decode cc pc = .ok (.getfield idx, 3)) (he : ws[q0]? = some (a, .inr (ci, fs))) (hc : vwCl[ci]? = some (C, T, N)) (hk : j < N) (hsame : (T j).1 = ref) {v : Value} (hv : fs[j]? = some v)
    (kk : W p l e R s m args below meth c H locs cells slots Q (F0 m (pc + 3) ls (v :: rest))) : W p l e R s m args below meth c H locs cells slots Q (F0 m pc ls (.ref a :: rest)) :=
  va_get K.1.1 K.1.2.1 K.1.2.2.2.2 hin K.1.2.2.2.1 hw.1.1 hw.1.2.1 q0 he hc j hk (K.1.2.2.2.2 _ lk) (fun x h => by rw [← hsame]; exact h) hv hd kk
theorem putX (K : Cx p s m args meth c A G cc nL own rt) (hw : Wx G A ws s H locs) {C : String} {T : u_T} {N ci : Nat} {ref : String} {a : Nat} {v : Value} {ty0 : Nat → FieldType} (hin : ∀ w ∈ u_ws C T N, w ∈ TB) (hty : ∀ k, k < N → parseFieldDescriptor (T k).2.2.1 = some (ty0 k)) (hnm : ∀ a, a < N → ∀ b, b < N → a ≠ b → (T a).2.1 ≠ (T b).2.1) (q0 : Nat) {fs : List Value} (j : Nat) (lk : Cond.fieldLink own idx ref (T j).2.1 (T j).2.2.1 ∈ TB) (hd : decode cc pc = .ok (.putfield idx, 3)) (he : ws[q0]? = some (a, .inr (ci, fs))) (hc : vwCl[ci]? = some (C, T, N)) (hk : j < N) (hsame : (T j).1 = ref) (hfin : (T j).2.2.2 = false) (hnr : narrow (ty0 j) v = v) (hft : fits (ty0 j) v = true) (hlen : j < fs.length)
    (kk : ∀ (H1 : Heap) (locs1 : List Loc), Wx G A (ws.set q0 (a, .inr (ci, fs.set j v))) s H1 locs1 → W p l e R s m args below meth c H1 locs1 cells slots Q (F0 m (pc + 3) ls rest)) : W p l e R s m args below meth c H locs cells slots Q (F0 m pc ls (v :: .ref a :: rest)) :=
  va_put K.1.1 K.1.2.1 K.1.2.2.2.2 hin ty0 hty hnm K.1.2.2.2.1 hw.1.1 hw.1.2.1 hw.1.2.2 hw.2 q0 he hc j hk (K.1.2.2.2.2 _ lk) (fun x h => by rw [← hsame]; exact h) hfin (hty j hk) hnr hft hlen hd (fun H1 locs1 hP hD hS => kk H1 locs1 ⟨⟨hw.1.1, hP, hD⟩, hS⟩)
theorem ialX (K : Cx p s m args meth c A G cc nL own rt) (hw : Wx G A ws s H locs) (q0 : Nat) {a : Nat} {nn : Nat} {f : Nat → Int32} {i : Int32} (hin : vp_in i nn) (hd : decode cc pc = .ok (.iaload, 1)) (ha : ws[q0]? = some (a, .inl (G.2.1, nn, .inl f)))
    (kk : W p l e R s m args below meth c H locs cells slots Q (F0 m (pc + 1) ls (.int (f i.toNatClampNeg) :: rest))) : W p l e R s m args below meth c H locs cells slots Q (F0 m pc ls (.int i :: .ref a :: rest)) :=
  va_iald K.1.1 K.1.2.1 hw.1.1 hw.1.2.1 q0 0 ha rfl hin hd kk
theorem iasX (K : Cx p s m args meth c A G cc nL own rt) (hw : Wx G A ws s H locs) (q0 : Nat) {a : Nat} {nn : Nat} {f : Nat → Int32} {i x : Int32} (hin : vp_in i nn) (hd : decode cc pc = .ok (.iastore, 1)) (ha : ws[q0]? = some (a, .inl (G.2.1, nn, .inl f)))
    (kk : ∀ (H1 : Heap) (locs1 : List Loc), Wx G A (ws.set q0 (a, .inl (G.2.1, nn, .inl (upd f i.toNatClampNeg x)))) s H1 locs1 → W p l e R s m args below meth c H1 locs1 cells slots Q (F0 m (pc + 1) ls rest)) : W p l e R s m args below meth c H locs cells slots Q (F0 m pc ls (.int x :: .int i :: .ref a :: rest)) :=
  va_iast K.1.1 K.1.2.1 hw.1.1 hw.1.2.1 hw.1.2.2 hw.2 q0 0 ha rfl hin hd (fun H1 locs1 hP hD hS => kk H1 locs1 ⟨⟨hw.1.1, hP, hD⟩, hS⟩)
theorem lenX (K : Cx p s m args meth c A G cc nL own rt) (hw : Wx G A ws s H locs) (q0 : Nat) {a : Nat} {nn : Nat} {f : Nat → Int32} (v : Int32) (hv : Int32.ofNat nn = v) (hd : decode cc pc = .ok (.arraylength, 1)) (ha : ws[q0]? = some (a, .inl (G.2.1, nn, .inl f)))
    (kk : W p l e R s m args below meth c H locs cells slots Q (F0 m (pc + 1) ls (.int v :: rest))) : W p l e R s m args below meth c H locs cells slots Q (F0 m pc ls (.ref a :: rest)) :=
  va_alen K.1.1 K.1.2.1 hw.1.1 hw.1.2.1 q0 0 ha rfl hv hd kk
end CORE2
theorem ifp {c : Prop} [Decidable c] {α : Type} {a b o : α} (hc : c) (h : (if c then a else b) = o) : a = o := by rw [if_pos hc] at h; exact h
theorem ifn {c : Prop} [Decidable c] {α : Type} {a b o : α} (hc : ¬ c) (h : (if c then a else b) = o) : b = o := by rw [if_neg hc] at h; exact h
def gu {α : Type} (c : Bool) (a : Option α) : Option α := match c with
  | true => a
  | false => none
theorem gd {c : Bool} {α : Type} {a : Option α} {o : α} (h : gu c a = some o) : c = true ∧ a = some o := by
  cases c with
  | true => exact ⟨rfl, h⟩
  | false => cases h
def bi {α β : Type} (x : Option α) (f : α → Option β) : Option β := match x with
  | some a => f a
  | none => none
theorem bd {α β : Type} {x : Option α} {f : α → Option β} {o : β} (h : bi x f = some o) : ∃ a, x = some a ∧ f a = some o := by
  cases x with
  | none => cases h
  | some a => exact ⟨a, rfl, h⟩
def inB (i : Int32) (n : Nat) : Bool := decide (0 ≤ i.toInt ∧ i.toInt < n)
theorem inB_in {i : Int32} {n : Nat} (h : inB i n = true) : vp_in i n := vp_in_iff.mpr (of_decide_eq_true h)
def isB (v : Int32) : Bool := decide (v = 0 ∨ v = 1)
theorem isB_n {v : Int32} (h : isB v = true) : narrow .boolean (.int v) = .int v := by
  rcases of_decide_eq_true h with rfl | rfl <;> rfl
theorem isB_f {v : Int32} (h : isB v = true) : fits .boolean (.int v) = true := by
  rcases of_decide_eq_true h with rfl | rfl <;> rfl
def nz (v : Int32) : Bool := decide (¬ v = 0)
theorem nz_n {v : Int32} (h : nz v = true) : ¬ v = 0 := of_decide_eq_true h
def lp {α β : Type} (f : α → Option (α ⊕ β)) : Nat → α → Option β
  | 0, _ => none
  | n + 1, a => match f a with
    | none => none
    | some (.inl b) => lp f n b
    | some (.inr b) => some b
theorem lp_s {α β : Type} {f : α → Option (α ⊕ β)} {n : Nat} {a : α} {x : β} (h : lp f (n + 1) a = some x) : ∃ y, f a = some y ∧ ((∃ b, y = .inl b ∧ lp f n b = some x) ∨ y = .inr x) := by
  unfold lp at h
  cases hf : f a with
  | none => rw [hf] at h; cases h
  | some y =>
    rw [hf] at h
    cases y with
    | inl b => exact ⟨_, rfl, Or.inl ⟨b, rfl, h⟩⟩
    | inr b => cases h; exact ⟨_, rfl, Or.inr rfl⟩
theorem inTX0 : ∀ w ∈ u_ws RX0 TX0 13, w ∈ TB := by decide +kernel
theorem inTX1 : ∀ w ∈ u_ws RX1 TX1 5, w ∈ TB := by decide +kernel
theorem inTX2 : ∀ w ∈ u_ws RX2 TX2 2, w ∈ TB := by decide +kernel
theorem inTX3 : ∀ w ∈ u_ws RX3 TX3 8, w ∈ TB := by decide +kernel
theorem inTX4 : ∀ w ∈ u_ws RX4 TX4 37, w ∈ TB := by decide +kernel
