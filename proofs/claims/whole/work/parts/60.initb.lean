def QN (G : GP) (A : Nat → Prop) (W' : (Nat → Nat) → va_W) : Array Value → State → Outcome → State → Prop := va_Qv (fun (_ : Nat → Nat) => True) (fun q t => Wd G A (W' q) t t.heap) A
def CtN (l : Launch) (y : MethodName) (b : ByteArray) (n : Nat) (rm : Room) (G : GP) (w : va_W) (av : List Value) (mc ms : Nat) (W' : (Nat → Nat) → va_W) : Prop := ∀ sz : Nat, Met l y (Cond.code y b n none :: TB) rm (PcS G w sz av) (QN G (va_A w sz) W') mc ms (va_A w sz)
section INITB
variable {p : Program} {l : Launch} {e : Env} {R : Room} {s : State} {m : MethodId} {args : Array Value} {below : List Frame} {meth : Method} {c : Code} {H : Heap} {locs : List Loc} {cells slots : Nat} {Q : State → Prop} {G : GP} {A : Nat → Prop} {cc : ByteArray} {nL : Nat} {own : String} {rt : Option FieldType} {y : MethodName} {b : ByteArray} {n : Nat} {rm : Room} {w w' : va_W} {av : List Value} {r : Int32} {mc ms : Nat} {W' : (Nat → Nat) → va_W}
theorem CtN.of (hy : plainName y.cls = true) (hn : (lg_sl av).length ≤ n) (body : ∀ (p : Program) (e : Env) (s : State) (m : MethodId) (below : List Frame) (meth : Method) (c : Code) (A : Nat → Prop) (ls : Array Slot), Cx p s m av.toArray meth c A G b n y.cls none → meth.name = y.name → lv_has ls n (lv_args 0 av) → Wx G A w s s.heap [] → W p l e rm s m av.toArray below meth c s.heap [] 0 0 (MQ below (QN G A W') av.toArray s mc ms A) (F0 m 0 ls [])) : CtN l y b n rm G w av mc ms W' := by
  intro sz
  refine Met.ofW (cc := b) (maxL := n) (ret := none) hy rfl ?_
  intro p e s m args below meth c s₁ B hml hv
  obtain ⟨rfl, hsz, hW, hE⟩ := hv
  subst hsz
  have hts := atoms_spec (ws := Cond.code y b n none :: TB) B.pre
  have hown : s.vm.findClass y.cls = some m.cls := findClass_of_methodNamed B.named
  have hl := lv_entry av (n := n) hn
  rw [lg_entry_eq]
  exact body p e s m below meth c (va_A w s.heap.size) _ ⟨⟨B.exec, B.bytes, hml, hown, fun w h => hts w (List.mem_cons_of_mem _ h)⟩, B.returns, B.notSynchronized, fun q h => Or.inr h, hE⟩ (name_of_methodNamed B.named B.method).1 hl ⟨⟨hW.1, hW.2.1, hW.2.2.self⟩, va_S.rf⟩
variable {pc : Nat} {ls : Array Slot} {v : Int32} {rest st0 As : List Value} {ws wa wb : va_W} {idx k : Nat}
theorem retN (K : Cx p s m args meth c A G cc nL own none) (q : Nat → Nat) (hw : Wx G A (W' q) s H locs) (hc : cells ≤ mc) (hs : slots ≤ ms) (hd : decode cc pc = .ok (.return_, 1)) : W p l e R s m args below meth c H locs cells slots (MQ below (QN G A W') args s mc ms A) (F0 m pc ls []) := by
  refine W.widen (k := mc) (n := ms) hc hs ?_
  exact W.vret K.1.1 K.1.2.1 K.2.1 (fun t ht hW => ⟨⟨q, rfl, trivial, by show Wd G A (W' q) t t.heap; rw [ht]; exact hw.1.moved hW.alike⟩, hw.2.F ht⟩) hw.2.2.2 hd K.2.2.1
theorem objX {a : Nat} (K : Cx p s m args meth c A G cc nL own rt) (lk : Cond.methodLink own idx objectInit ∈ TB) (hsz : ls.size = nL) (hd : decode cc pc = .ok (.invokespecial idx, 3)) (hf : 1 ≤ R.frames) (hlo : 12 ≤ R.locals)
    (kk : W p l e R s m args below meth c H locs cells slots Q (F0 m (pc + 3) ls [])) : W p l e R s m args below meth c H locs cells slots Q (F0 m pc ls [.ref a]) := by
  refine W.objInit K.1.1 K.1.2.1 K.1.2.2.2.1 (K.1.2.2.2.2 _ lk) (K.1.2.2.2.2 _ im_objectInit) (K.1.2.2.2.2 _ cd_objectInit) rfl (hsz.trans K.1.2.2.1.symm) rfl hd hf hlo ?_
  exact W.eq (g2 := F0 m (pc + 3) ls []) rfl kk
theorem newaX (K : Cx p s m args meth c A G cc nL own rt) (hw : Wx G A ws s H locs) {i : Int32} {N' : Nat} (hn : ¬ i < 0) (hN : i.toNatClampNeg = N') (hby : N' * componentBytes .int ≤ 536870912) (hc : cells + 1 ≤ R.cells) (hs : slots + N' ≤ R.slots) (hd : decode cc pc = .ok (.newarray .int, 2))
    (kk : ∀ (q : Nat) (H1 : Heap), Wx G A (ws ++ [(q, .inl (G.2.1, N', .inl z0))]) s H1 locs → W p l e R s m args below meth c H1 locs (cells + 1) (slots + N') Q (F0 m (pc + 2) ls (.ref q :: rest))) : W p l e R s m args below meth c H locs cells slots Q (F0 m pc ls (.int i :: rest)) := by
  refine va_newa K.1.1 K.1.2.1 (atype := .int) (K.1.2.2.2.2 _ ac_int) (ty := .int) rfl hw.1.1 hw.1.2.1 hw.1.2.2 hw.2 K.2.2.2.1 (a0 := (N', .inl z0)) (fun cA => rfl) hn hN hby hc hs hd (fun q cA H1 hK hP hD hS => ?_)
  have e : cA = G.2.1 := Option.some.inj ((va_nm_int (hK.2 1 (cA, .int) rfl).2).symm.trans (va_nm_int (hK.2 0 (G.2.1, .int) rfl).2))
  subst e
  exact kk q H1 ⟨⟨hw.1.1, hP, hD⟩, hS⟩
theorem newX (K : Cx p s m args meth c A G cc nL own rt) (hw : Wx G A ws s H locs) {C : String} {T : u_T} {N ci : Nat} {ty : Nat → FieldType} (hin : ∀ w ∈ u_ws C T N, w ∈ TB) (hty : ∀ k, k < N → parseFieldDescriptor (T k).2.2.1 = some (ty k)) (hcl : Cond.classLink own idx C ∈ TB) (hinst : Cond.instantiable C N ∈ TB) (hini : Cond.initialized C ∈ TB) (hcc : vwCl[ci]? = some (C, T, N)) {fs : List Value} (hfs : ∀ j, j < N → defaultValue (ty j) = vp_V fs j) (hc : cells + 1 ≤ R.cells) (hs : slots + N ≤ R.slots) (hd : decode cc pc = .ok (.new idx, 3))
    (kk : ∀ (q : Nat) (H1 : Heap), Wx G A (ws ++ [(q, .inr (ci, fs))]) s H1 locs → W p l e R s m args below meth c H1 locs (cells + 1) (slots + N) Q (F0 m (pc + 3) ls (.ref q :: rest))) : W p l e R s m args below meth c H locs cells slots Q (F0 m pc ls rest) :=
  va_new K.1.1 K.1.2.1 K.1.2.2.2.2 hin ty hty K.1.2.2.2.1 (K.1.2.2.2.2 _ hcl) (K.1.2.2.2.2 _ hinst) (K.1.2.2.2.2 _ hini) hw.1.1 hw.1.2.1 hw.1.2.2 hw.2 K.2.2.2.1 hcc hfs hc hs hd (fun q H1 hP hD hS => kk q H1 ⟨⟨hw.1.1, hP, hD⟩, hS⟩)
theorem putFX (K : Cx p s m args meth c A G cc nL own rt) (hin2 : meth.name = "<init>") (hw : Wx G A ws s H locs) {C : String} {T : u_T} {N ci : Nat} {ref : String} {a : Nat} {v : Value} {ty0 : Nat → FieldType} (hin : ∀ w ∈ u_ws C T N, w ∈ TB) (hty : ∀ k, k < N → parseFieldDescriptor (T k).2.2.1 = some (ty0 k)) (hnm : ∀ a, a < N → ∀ b, b < N → a ≠ b → (T a).2.1 ≠ (T b).2.1) (q0 : Nat) {fs : List Value} (j : Nat) (lk : Cond.fieldLink own idx ref (T j).2.1 (T j).2.2.1 ∈ TB) (hd : decode cc pc = .ok (.putfield idx, 3)) (he : ws[q0]? = some (a, .inr (ci, fs))) (hc : vwCl[ci]? = some (C, T, N)) (hk : j < N) (hsame : (T j).1 = ref) (hfin : (T j).2.2.2 = true) (hdecl : (T j).1 = own) (hnr : narrow (ty0 j) v = v) (hft : fits (ty0 j) v = true) (hlen : j < fs.length)
    (kk : ∀ (H1 : Heap) (locs1 : List Loc), Wx G A (ws.set q0 (a, .inr (ci, fs.set j v))) s H1 locs1 → W p l e R s m args below meth c H1 locs1 cells slots Q (F0 m (pc + 3) ls rest)) : W p l e R s m args below meth c H locs cells slots Q (F0 m pc ls (v :: .ref a :: rest)) :=
  va_putF K.1.1 K.1.2.1 K.1.2.2.2.2 hin ty0 hty hnm K.1.2.2.2.1 hw.1.1 hw.1.2.1 hw.1.2.2 hw.2 q0 he hc j hk (K.1.2.2.2.2 _ lk) (fun x h => by rw [← hsame]; exact h) hfin hin2 hdecl (hty j hk) hnr hft hlen hd (fun H1 locs1 hP hD hS => kk H1 locs1 ⟨⟨hw.1.1, hP, hD⟩, hS⟩)
theorem aftN {a0 : Array Value} (hr : va_Run p l e R s m args below meth c H locs cells slots mc ms (F0 m pc ls st0) rest (QN G (va_A w H.size) W' a0) (va_A w H.size)) (hww : ws = wa ++ (w ++ wb)) (hw : Wx G A ws s H locs) (hA : ∀ q, s.heap.size ≤ q → A q)
    (k : ∀ (q : Nat → Nat) (H1 : Heap) (locs1 : List Loc), Wx G A (wa ++ (W' q ++ wb)) s H1 locs1 → W p l e R s m args below meth c H1 locs1 (cells + mc) (slots + ms) Q (F0 m (pc + 3) ls rest)) : W p l e R s m args below meth c H locs cells slots Q (F0 m pc ls st0) := by
  subst hww
  have hF := hw.free hA
  refine va_callv hr hw.2 (fun q _ h => hF q h) hF ?_
  intro u t H1 locs1 ht hvm hp hB hz hk hS
  rw [ht] at hB
  exact k u H1 locs1 (hw.back hA hvm hk hS hB)
def RmN (rm R : Room) (mc ms n : Nat) : Prop := rm.cells = mc ∧ rm.slots = ms ∧ rm.frames + 1 ≤ R.frames ∧ 8 + (n + 11) + rm.locals ≤ R.locals
def MtN (y : MethodName) (b : ByteArray) (n : Nat) : Prop := Cond.instanceMethod y ∈ TB ∧ Cond.initialized y.cls ∈ TB ∧ Cond.code y b n none ∈ TB ∧ (y.cls ≠ "java/lang/invoke/MethodHandle" ∧ y.cls ≠ "java/lang/invoke/VarHandle" ∧ (parseMethodDescriptor y.desc).map (fun d => d.parameters.length) = some 0) ∧ y.name = "<init>"
theorem callN {a : Nat} (K : Cx p s m args meth c A G cc nL own rt) (hM : CtN l y b n rm G w [.ref a] mc ms W') (mt : MtN y b n) (lk : Cond.methodLink own idx y ∈ TB) (hR : RmN rm R mc ms n) (hw : Wx G A ws s H locs) (hd : decode cc pc = .ok (.invokespecial idx, 3)) (hsz : ls.size = nL) (hf : cells + mc ≤ R.cells ∧ slots + ms ≤ R.slots) (hww : ws = wa ++ (w ++ wb)) (hst : st0 = .ref a :: rest) (hroom : (rest.map fun v => v.category).sum ≤ 8)
    (kk : ∀ (q : Nat → Nat) (H1 : Heap) (locs1 : List Loc), Wx G A (wa ++ (W' q ++ wb)) s H1 locs1 → W p l e R s m args below meth c H1 locs1 (cells + mc) (slots + ms) Q (F0 m (pc + 3) ls rest)) : W p l e R s m args below meth c H locs cells slots Q (F0 m pc ls st0) := by
  subst hst
  have hpre := pre_of (av := [.ref a]) K hww hw
  obtain ⟨m1, m3, m4, m5, m6⟩ := mt
  have hts := K.1.2.2.2.2
  exact aftN (va_runI (As := []) (n := 0) K.1 (hM H.size) ⟨callB_of 0 hts (good_cons m4) rfl hR.1 hR.2.1 (hts _ m3) (hts _ lk) m5 ⟨hR.2.2.1, hR.2.2.2⟩, m6, hts _ m1⟩ ⟨PcS.blind, hpre⟩ rfl rfl hsz rfl (lv_room hroom) hd hf) hww hw K.2.2.2.1 kk
theorem callNN {a : Nat} {host : String} (K : Cx p s m args meth c A G cc nL own rt) (hM : CtN l y b n rm G w [.ref a] mc ms W') (mt : MtN y b n) (lk : (own, idx, y, host) ∈ NM) (hR : RmN rm R mc ms n) (hw : Wx G A ws s H locs) (hd : decode cc pc = .ok (.invokespecial idx, 3)) (hsz : ls.size = nL) (hf : cells + mc ≤ R.cells ∧ slots + ms ≤ R.slots) (hww : ws = wa ++ (w ++ wb)) (hst : st0 = .ref a :: rest) (hroom : (rest.map fun v => v.category).sum ≤ 8)
    (kk : ∀ (q : Nat → Nat) (H1 : Heap) (locs1 : List Loc), Wx G A (wa ++ (W' q ++ wb)) s H1 locs1 → W p l e R s m args below meth c H1 locs1 (cells + mc) (slots + ms) Q (F0 m (pc + 3) ls rest)) : W p l e R s m args below meth c H locs cells slots Q (F0 m pc ls st0) := by
  subst hst
  have hpre := pre_of (av := [.ref a]) K hww hw
  obtain ⟨m1, m3, m4, m5, m6⟩ := mt
  have hts := K.1.2.2.2.2
  exact aftN (va_runIN (As := []) (n := 0) K.1 (hM H.size) ⟨va_cnB 0 hts (good_cons m4) rfl hR.1 hR.2.1 (K.2.2.2.2.2.1 _ lk) (hts _ m3) m5 ⟨hR.2.2.1, hR.2.2.2⟩, m6, hts _ m1⟩ ⟨PcS.blind, hpre⟩ rfl rfl hsz rfl (lv_room hroom) hd hf) hww hw K.2.2.2.1 kk
theorem mtN_X0 : MtN yX0_init cX0_init 1 := ⟨im_yX0_init, ini_X0, cd_yX0_init, by decide +kernel, rfl⟩
theorem mtN_X1 : MtN yX1_init cX1_init 1 := ⟨im_yX1_init, ini_X1, cd_yX1_init, by decide +kernel, rfl⟩
theorem mtN_X2 : MtN yX2_init cX2_init 1 := ⟨im_yX2_init, ini_X2, cd_yX2_init, by decide +kernel, rfl⟩
theorem mtN_X3 : MtN yX3_init cX3_init 1 := ⟨im_yX3_init, ini_X3, cd_yX3_init, by decide +kernel, rfl⟩
theorem mtN_X4 : MtN yX4_init cX4_init 1 := ⟨im_yX4_init, ini_X4, cd_yX4_init, by decide +kernel, rfl⟩
theorem Wx.sub {ws' : va_W} (h : Wx G A ws s H locs) (is : List Nat) (h0 : is.filterMap (fun i => ws[i]?) = ws') (h1 : is.map (fun i => ws[i]?) = ws'.map some) (h2 : va_nd is = true) : Wx G A ws' s H locs :=
  ⟨⟨h.1.1, h.1.2.1.sub is h0, h.1.2.2.sub is h2 h1⟩, h.2⟩
end INITB
