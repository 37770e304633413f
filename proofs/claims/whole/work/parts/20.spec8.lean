/-! the class's cells, part by part -/
def clC (a : Nat) (sc bl : Int32) (se : Int64) (st wr : Int32) : va_W := [(a, .inr (0, [.int sc, .int bl, .long se, .int st, .int wr]))]
def inW (a0 a1 : Nat) (kA : Nat → ClassId) (n : Nat) (f : Nat → Int32) : va_W := [(a0, .inr (1, [.ref a1, .int (nI n)])), (a1, .inl (kA 0, 59, .inl f))]
def pdW (a0 a1 a2 a3 : Nat) (kA : Nat → ClassId) (n : Nat) (so de dl : Nat → Int32) : va_W := [(a0, .inr (2, [.ref a1, .ref a2, .ref a3, .int (nI n)])), (a1, .inl (kA 0, 12, .inl so)), (a2, .inl (kA 0, 12, .inl de)), (a3, .inl (kA 0, 12, .inl dl))]
def vdW (a0 a1 : Nat) (kA : Nat → ClassId) (n : Nat) (L : Nat → Int32) : va_W := [(a0, .inr (3, [.ref a1, .int (nI n)])), (a1, .inl (kA 0, 16, .inl L))]
def wkW (a0 a1 a2 a3 a4 : Nat) (kA : Nat → ClassId) (u d hi lo wd : Int32) (f0 f1 : Nat → Int32) (d0 d1 : Nat → UInt64) : va_W := [(a0, .inr (4, [.int u, .int d, .int hi, .int lo, .int wd, .ref a1, .ref a2, .ref a3, .ref a4])), (a1, .inl (kA 0, 119, .inl f0)), (a2, .inl (kA 0, 119, .inl f1)), (a3, .inl (kA 3, 119, .inr (.inr (.inr (.inl d0))))), (a4, .inl (kA 3, 119, .inr (.inr (.inr (.inl d1)))))]
def arI (a : Nat) (kA : Nat → ClassId) (n : Nat) (f : Nat → Int32) : va_W := [(a, .inl (kA 0, n, .inl f))]
def arD (a : Nat) (kA : Nat → ClassId) (n : Nat) (f : Nat → UInt64) : va_W := [(a, .inl (kA 3, n, .inr (.inr (.inr (.inl f)))))]
theorem xorI (a b : Nat) : nI a ^^^ nI b = nI (a ^^^ b) := by
  apply Int32.toBitVec_inj.mp
  show BitVec.ofNat 32 a ^^^ BitVec.ofNat 32 b = BitVec.ofNat 32 (a ^^^ b)
  rw [BitVec.ofNat_xor]
theorem bit_if (x : Int64) (d : Nat) (h : ¬ bitq x d = 0) : bitq x d = 1 := by
  rcases bitq_or x d with h2 | h2
  · exact absurd h2 h
  · exact h2
theorem bit_no {x : Int64} {d : Nat} (h : bitq x d = 0) : ¬ bitq x d = 1 := by rw [h]; decide
def RgX (V : List Int32) (L : Nat → Int32) : Prop := ∀ b, b < 16 → b < V.length → L ((V.length - 1 - b) % 16) = V.getD b 0
theorem RgX_s {V : List Int32} {L : Nat → Int32} (h : RgX V L) (x : Int32) : RgX (x :: V) (upd L (V.length % 16) x) := by
  intro b h1 h2
  cases b with
  | zero =>
    show upd L (V.length % 16) x ((V.length + 1 - 1 - 0) % 16) = x
    rw [show V.length + 1 - 1 - 0 = V.length by omega]
    exact pk_us
  | succ b =>
    have h3 : b < V.length := by simpa using h2
    show upd L (V.length % 16) x ((V.length + 1 - 1 - (b + 1)) % 16) = V.getD b 0
    rw [show V.length + 1 - 1 - (b + 1) = V.length - 1 - b by omega, pk_un (by omega)]
    exact h b (by omega) h3
def smI (f : Nat → Int32) (lo : Nat) : Nat → Int32
  | 0 => 0
  | n + 1 => smI f lo n + f (lo + n)
