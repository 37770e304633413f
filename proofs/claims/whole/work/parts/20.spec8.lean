/-! the class's cells, part by part -/
def clC (a : Nat) (sc bl : Int32) (se : Int64) (st wr : Int32) : va_W := [(a, .inr (0, [.int sc, .int bl, .long se, .int st, .int wr]))]
def inW (a0 a1 : Nat) (kA : Nat → ClassId) (n : Nat) (f : Nat → Int32) : va_W := [(a0, .inr (1, [.ref a1, .int (nI n)])), (a1, .inl (kA 0, 59, .inl f))]
def pdW (a0 a1 a2 a3 : Nat) (kA : Nat → ClassId) (n : Nat) (so de dl : Nat → Int32) : va_W := [(a0, .inr (2, [.ref a1, .ref a2, .ref a3, .int (nI n)])), (a1, .inl (kA 0, 12, .inl so)), (a2, .inl (kA 0, 12, .inl de)), (a3, .inl (kA 0, 12, .inl dl))]
def vdW (a0 a1 : Nat) (kA : Nat → ClassId) (n : Nat) (L : Nat → Int32) : va_W := [(a0, .inr (3, [.ref a1, .int (nI n)])), (a1, .inl (kA 0, 16, .inl L))]
def wkW (a0 a1 a2 a3 a4 : Nat) (kA : Nat → ClassId) (u d hi lo wd : Int32) (f0 f1 : Nat → Int32) (d0 d1 : Nat → UInt64) : va_W := [(a0, .inr (4, [.int u, .int d, .int hi, .int lo, .int wd, .ref a1, .ref a2, .ref a3, .ref a4])), (a1, .inl (kA 0, 119, .inl f0)), (a2, .inl (kA 0, 119, .inl f1)), (a3, .inl (kA 3, 119, .inr (.inr (.inr (.inl d0))))), (a4, .inl (kA 3, 119, .inr (.inr (.inr (.inl d1)))))]
def arI (a : Nat) (kA : Nat → ClassId) (n : Nat) (f : Nat → Int32) : va_W := [(a, .inl (kA 0, n, .inl f))]
def arD (a : Nat) (kA : Nat → ClassId) (n : Nat) (f : Nat → UInt64) : va_W := [(a, .inl (kA 3, n, .inr (.inr (.inr (.inl f)))))]
theorem xorI (a b : Nat) : nI a ^^^ nI b = nI (a ^^^ b) := by
  apply Int32.toBitVec_inj.mp
  show BitVec.ofNat 32 a ^^^ BitVec.ofNat 32 b = BitVec.ofNat 32 (a ^^^ b)
  rw [BitVec.ofNat_xor]
theorem bit_if (x : Int64) (d : Nat) (h : ¬ bitq x d = 0) : bitq x d = 1 := by
  rcases bitq_or x d with h2 | h2
  · exact absurd h2 h
  · exact h2
theorem bit_no {x : Int64} {d : Nat} (h : bitq x d = 0) : ¬ bitq x d = 1 := by rw [h]; decide
def RgX (V : List Int32) (L : Nat → Int32) : Prop := ∀ b, b < 16 → b < V.length → L ((V.length - 1 - b) % 16) = V.getD b 0
theorem RgX_s {V : List Int32} {L : Nat → Int32} (h : RgX V L) (x : Int32) : RgX (x :: V) (upd L (V.length % 16) x) := by
  intro b h1 h2
  cases b with
  | zero =>
    show upd L (V.length % 16) x ((V.length + 1 - 1 - 0) % 16) = x
    rw [show V.length + 1 - 1 - 0 = V.length by omega]
    exact pk_us
  | succ b =>
    have h3 : b < V.length := by simpa using h2
    show upd L (V.length % 16) x ((V.length + 1 - 1 - (b + 1)) % 16) = V.getD b 0
    rw [show V.length + 1 - 1 - (b + 1) = V.length - 1 - b by omega, pk_un (by omega)]
    exact h b (by omega) h3
def smI (f : Nat → Int32) (lo : Nat) : Nat → Int32
  | 0 => 0
  | n + 1 => smI f lo n + f (lo + n)
/-- the way into a method of a class with natives, as ct_in -/
theorem ct_inF {l : Launch} {y : MethodName} {cc : ByteArray} {n : Nat} {ret : Option FieldType} {rm : Room} {D : va_G} {kA : Nat → ClassId} {sz : Nat} {wc : va_W} {av : List Value} {Qc : (Nat → Prop) → Array Value → State → Outcome → State → Prop} {mc ms : Nat} {own : String} (hy : plainFor y = true) (ho : y.cls = own) (hn : (lg_sl av).length ≤ n)
    (body : ∀ (p : Program) (e : Env) (s : State) (m : MethodId) (below : List Frame) (meth : Method) (c : Code) (A : Nat → Prop) (ls : Array Slot), CallFix p m c cc n s av.toArray wsG own → meth.sig.returnType = ret → meth.locks = false → meth.name = y.name → KK D kA s → (∀ q : Nat, s.heap.size ≤ q → A q) → va_P D vwCl wc s.heap → va_D A wc → va_S A s.heap s.heap [] → lv_has ls n (lv_args 0 av) → s.heap.size = sz →
      W p l e rm s m av.toArray below meth c s.heap [] 0 0 (MQ below (Qc A) av.toArray s mc ms A) (F0 m 0 ls [])) :
    Met l y (mkWs y cc n ret) rm (va_Pc av (cPre D kA sz wc)) (Qc (va_A wc sz)) mc ms (va_A wc sz) := by
  refine va_MetF (cc := cc) (maxL := n) (ret := ret) hy rfl ?_
  intro p e s m args below meth c s₁ B hml hv
  obtain ⟨rfl, hsz, hP, hK, hD0⟩ := hv
  have hts := atoms_spec (ws := mkWs y cc n ret) B.pre
  have hown : s.vm.findClass own = some m.cls := by rw [← ho]; exact findClass_of_methodNamed B.named
  subst hsz
  have hD := hD0.self (sz := s.heap.size)
  have hl := lv_entry av (n := n) hn
  rw [lg_entry_eq]
  exact body p e s m below meth c _ _ ⟨B.exec, B.bytes, hml, hown, fun w h => hts w (List.mem_cons_of_mem _ h)⟩ B.returns B.notSynchronized (name_of_methodNamed B.named B.method).1 hK (fun q h => Or.inr h) hP hD va_S.rf hl rfl
theorem ct_iF {l : Launch} {y : MethodName} {cc : ByteArray} {n h : Nat} {D : va_G} {kA : Nat → ClassId} {sz : Nat} {wc : va_W} {av : List Value} {own : String} {post : Int32 → va_W → Prop} (hy : plainFor y = true) (ho : y.cls = own) (hn : (lg_sl av).length ≤ n)
    (body : ∀ (p : Program) (e : Env) (s : State) (m : MethodId) (args : Array Value) (below : List Frame) (meth : Method) (c : Code) (A : Nat → Prop) (ls : Array Slot) (Q : State → Prop), CallFix p m c cc n s args wsG own → meth.name = y.name → KK D kA s → (∀ q : Nat, s.heap.size ≤ q → A q) → va_P D vwCl wc s.heap → va_D A wc → va_S A s.heap s.heap [] → lv_has ls n (lv_args 0 av) → s.heap.size = sz →
      (∀ (v : Int32) (u : va_W) (H : Heap) (locs : List Loc) (pc : Nat) (ls : Array Slot), va_P D vwCl u H → va_D A u → va_S A s.heap H locs → decode cc pc = .ok (.ireturn, 1) → post v u → W p l e (rmC h 0 0) s m args below meth c H locs 0 0 Q (F0 m pc ls [.int v])) → W p l e (rmC h 0 0) s m args below meth c s.heap [] 0 0 Q (F0 m 0 ls [])) : CtI l y cc n .int h D kA sz wc av post :=
  ct_inF (Qc := fun A => va_Qi post (cB D A) A) hy ho hn (fun p e s m below meth c A ls F hr hlk hnm hK hA hP hD hS hl hsz => body p e s m _ below meth c A ls _ F hnm hK hA hP hD hS hl hsz (fun v u H locs pc ls hP hD hS hd hq => rt_i F.1 F.2.1 hr hlk u hP hD hS hd hq))
