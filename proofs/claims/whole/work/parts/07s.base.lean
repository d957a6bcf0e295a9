def s9 (j : Nat) : Bool := decide (j < 9)
theorem s9_l {j : Nat} (h : s9 j = true) : j < 9 := of_decide_eq_true h
def sB (j k : Nat) : Int32 := (sByt.getD j []).getD k 0
def isC (v : Int32) : Bool := decide (v.toUInt32.toUInt16.toUInt32.toInt32 = v)
theorem isC_n {v : Int32} (h : isC v = true) : narrow .char (.int v) = .int v := by
  show Value.int v.toUInt32.toUInt16.toUInt32.toInt32 = .int v
  rw [of_decide_eq_true h]
def isY (v : Int32) : Bool := decide (v.toInt8.toInt32 = v)
theorem isY_n {v : Int32} (h : isY v = true) : narrow .byte (.int v) = .int v := by
  show Value.int v.toInt8.toInt32 = .int v
  rw [of_decide_eq_true h]
section CORE4
variable {p : Program} {l : Launch} {e : Env} {R : Room} {s : State} {m : MethodId} {args : Array Value} {below : List Frame} {meth : Method} {c : Code} {H : Heap} {locs : List Loc} {cells slots : Nat} {Q : State → Prop} {G : GP} {A : Nat → Prop} {cc : ByteArray} {nL : Nat} {own : String} {rt : Option FieldType} {y : MethodName} {b : ByteArray} {n : Nat} {rm : Room} {w w' : va_W} {av : List Value} {r : Int32}
variable {pc : Nat} {ls : Array Slot} {v : Int32} {rest st0 As : List Value} {ws wa wb : va_W} {idx k : Nat} {Qc : Array Value → State → Outcome → State → Prop} {free : Addr → Prop}
/-- a receiver that is one of the class's texts -/
theorem callXI {j : Nat} (K : Cx p s m args meth c A G cc nL own rt) (hj : j < 9) {rt2 : Option FieldType} (hM : CtI l y b n rt2 rm G w (.ref (G.2.2.2.1 j) :: As) r w') (mt : MtV y b n rt2 k) (lk : Cond.methodLink own idx y ∈ TB) (hR : RmOk rm R n) (hw : Wx G A ws s H locs) (hd : decode cc pc = .ok (.invokevirtual idx, 3)) (hsz : ls.size = nL) (hf : cells ≤ R.cells ∧ slots ≤ R.slots) (hww : ws = wa ++ (w ++ wb)) (hy : y.cls = "java/lang/String") (hst : st0 = As.reverse ++ .ref (G.2.2.2.1 j) :: rest) (hn : As.length = k) (hroom : (rest.map fun v => v.category).sum ≤ 8)
    (kk : ∀ (H1 : Heap) (locs1 : List Loc), Wx G A (wa ++ (w' ++ wb)) s H1 locs1 → W p l e R s m args below meth c H1 locs1 cells slots Q (F0 m (pc + 3) ls (.int r :: rest))) : W p l e R s m args below meth c H locs cells slots Q (F0 m pc ls st0) := by
  subst hst
  have hpre := pre_of (av := .ref (G.2.2.2.1 j) :: As) K hww hw
  have hrun : va_Run p l e R s m args below meth c H locs cells slots 0 0 (F0 m pc ls (As.reverse ++ .ref (G.2.2.2.1 j) :: rest)) rest (QI G (va_A w H.size) w' r (Value.ref (G.2.2.2.1 j) :: As).toArray) (va_A w H.size) := by
    obtain ⟨m1, m2, m3, m4, m5⟩ := mt
    have hts := K.1.2.2.2.2
    refine va_runV (n := k) K.1 (hM H.size) ⟨callB_of k hts (good_cons m4) rfl hR.1 hR.2.1 (hts _ m3) (hts _ lk) m5 ⟨hR.2.2.1, hR.2.2.2⟩, hts _ m1, hts _ m2⟩ ⟨PcS.blind, ?_, hpre⟩ rfl hn hsz rfl (lv_room hroom) hd hf
    have h9 := vk_recv K.2.2.2.2.2.2.2.2.2.1 hj hw.2
    rw [hy]
    exact h9
  exact aftI hrun hww hw K.2.2.2.1 kk
/-- a receiver that isn't the first of the callee's cells -/
theorem runV2 {a i2 : Nat} (K : Cx p s m args meth c A G cc nL own rt) {rt2 : Option FieldType} (hM : Met l y (Cond.code y b n rt2 :: TB) rm (PcS G w H.size (.ref a :: As)) Qc 0 0 free) (mt : MtV y b n rt2 k) (lk : Cond.methodLink own idx y ∈ TB) (hR : RmOk rm R n) (hww : ws = wa ++ (w ++ wb)) (hw : Wx G A ws s H locs) {ci N : Nat} {T : u_T} {fs : List Value} (hrv : w[i2]? = some (a, .inr (ci, fs))) (hcl : vwCl[ci]? = some (y.cls, T, N)) (hst : st0 = As.reverse ++ .ref a :: rest) (hn : As.length = k) (hsz : ls.size = nL) (hroom : (rest.map fun v => v.category).sum ≤ 8) (hd : decode cc pc = .ok (.invokevirtual idx, 3)) (hf : cells ≤ R.cells ∧ slots ≤ R.slots) :
    va_Run p l e R s m args below meth c H locs cells slots 0 0 (F0 m pc ls st0) rest (Qc (Value.ref a :: As).toArray) free := by
  subst hst
  have hpre := pre_of (av := .ref a :: As) K hww hw
  subst hww
  obtain ⟨m1, m2, m3, m4, m5⟩ := mt
  have hts := K.1.2.2.2.2
  refine va_runV (n := k) K.1 hM ⟨callB_of k hts (good_cons m4) rfl hR.1 hR.2.1 (hts _ m3) (hts _ lk) m5 ⟨hR.2.2.1, hR.2.2.2⟩, hts _ m1, hts _ m2⟩ ⟨PcS.blind, ?_, hpre⟩ rfl hn hsz rfl (lv_room hroom) hd hf
  have hm := hw.1.mid
  exact va_recv hm.1 hm.2.1 hcl (q0 := i2) hrv
theorem callVI2 {a i2 : Nat} (K : Cx p s m args meth c A G cc nL own rt) {rt2 : Option FieldType} (hM : CtI l y b n rt2 rm G w (.ref a :: As) r w') (mt : MtV y b n rt2 k) (lk : Cond.methodLink own idx y ∈ TB) (hR : RmOk rm R n) (hw : Wx G A ws s H locs) (hd : decode cc pc = .ok (.invokevirtual idx, 3)) (hsz : ls.size = nL) (hf : cells ≤ R.cells ∧ slots ≤ R.slots) (hww : ws = wa ++ (w ++ wb)) {ci N : Nat} {T : u_T} {fs : List Value} (hrv : w[i2]? = some (a, .inr (ci, fs))) (hcl : vwCl[ci]? = some (y.cls, T, N)) (hst : st0 = As.reverse ++ .ref a :: rest) (hn : As.length = k) (hroom : (rest.map fun v => v.category).sum ≤ 8)
    (kk : ∀ (H1 : Heap) (locs1 : List Loc), Wx G A (wa ++ (w' ++ wb)) s H1 locs1 → W p l e R s m args below meth c H1 locs1 cells slots Q (F0 m (pc + 3) ls (.int r :: rest))) : W p l e R s m args below meth c H locs cells slots Q (F0 m pc ls st0) :=
  aftI (runV2 K (hM H.size) mt lk hR hww hw hrv hcl hst hn hsz hroom hd hf) hww hw K.2.2.2.1 kk
theorem callVV2 {a i2 : Nat} (K : Cx p s m args meth c A G cc nL own rt) (hM : CtV l y b n rm G w (.ref a :: As) w') (mt : MtV y b n none k) (lk : Cond.methodLink own idx y ∈ TB) (hR : RmOk rm R n) (hw : Wx G A ws s H locs) (hd : decode cc pc = .ok (.invokevirtual idx, 3)) (hsz : ls.size = nL) (hf : cells ≤ R.cells ∧ slots ≤ R.slots) (hww : ws = wa ++ (w ++ wb)) {ci N : Nat} {T : u_T} {fs : List Value} (hrv : w[i2]? = some (a, .inr (ci, fs))) (hcl : vwCl[ci]? = some (y.cls, T, N)) (hst : st0 = As.reverse ++ .ref a :: rest) (hn : As.length = k) (hroom : (rest.map fun v => v.category).sum ≤ 8)
    (kk : ∀ (H1 : Heap) (locs1 : List Loc), Wx G A (wa ++ (w' ++ wb)) s H1 locs1 → W p l e R s m args below meth c H1 locs1 cells slots Q (F0 m (pc + 3) ls rest)) : W p l e R s m args below meth c H locs cells slots Q (F0 m pc ls st0) :=
  aftV (runV2 K (hM H.size) mt lk hR hww hw hrv hcl hst hn hsz hroom hd hf) hww hw K.2.2.2.1 kk
end CORE4
def f_copy (n : Nat) (f g : Nat → Int32) : Nat → Int32 := va_cpy f g 0 0 n
