abbrev dTy (kA : Nat → ClassId) : List (ClassId × FieldType) := [(kA 0, .int), (kA 1, .boolean), (kA 2, .long), (kA 3, .double), (kA 4, .object "ScanDetector$Cell")]
/-- what every method takes as known of the tables beside its words -/
def KK (D : va_G) (kA : Nat → ClassId) (U : State) : Prop := va_K D vwCl (dTy kA) U ∧ (∀ w ∈ nwL, va_Nw w U) ∧ va_AO RX0 U
theorem nw_warm {w : Cond} (hw : isNest w = true) {s U : State} (hW : s.WarmedH U.vm) (h : va_Nw w s) : va_Nw w U := by
  cases w <;> first | exact va_Nw.warmF hW h | exact va_Nw.warmM hW h | cases hw
theorem nw_onT {w : Cond} (hw : isNest w = true) : w.onTables = true := by
  cases w <;> first | rfl | cases hw
theorem KK.warm {D : va_G} {kA : Nat → ClassId} {s U : State} (hW : s.WarmedH U.vm) (h : KK D kA s) : KK D kA U := ⟨va_K.moved hW.alike h.1, fun w hw => nw_warm (List.mem_filter.mp hw).2 hW (h.2.1 w hw), va_AO.moved hW.alike h.2.2⟩
theorem KK.call {D : va_G} {kA : Nat → ClassId} {U : State} {g : JFrame} {mk : MethodId} {a : Array Value} (h : KK D kA U) : KK D kA (U.calling g mk a) := ⟨va_K.moved (u := U) (U := U.calling g mk a) (Vm.Alike.refl U.vm) h.1, fun w hw => va_Nw.same (nw_onT (List.mem_filter.mp hw).2) (u := U) (U := U.calling g mk a) rfl (h.2.1 w hw), va_AO.moved (u := U) (U := U.calling g mk a) (Vm.Alike.refl U.vm) h.2.2⟩
theorem KK.nw {D : va_G} {kA : Nat → ClassId} {U : State} (h : KK D kA U) {w : Cond} (hw : w ∈ nwL) (A : Array Value) : w.before A U = true := va_Nw.use (nw_onT (List.mem_filter.mp hw).2) (h.2.1 w hw)
def cPre (D : va_G) (kA : Nat → ClassId) (sz : Nat) (wc : va_W) (U : State) : Prop := U.heap.size = sz ∧ va_P D vwCl wc U.heap ∧ KK D kA U ∧ va_D (fun _ => True) wc
def cB (D : va_G) (A : Nat → Prop) (u : va_W) (t : State) : Prop := va_P D vwCl u t.heap ∧ va_D A u
theorem cPre.blind {D : va_G} {kA : Nat → ClassId} {sz : Nat} {wc : va_W} {av : List Value} : FrameBlind (va_Pc av (cPre D kA sz wc)) := fun _ _ _ _ q => ⟨q.1, q.2.1, q.2.2.1, KK.call q.2.2.2.1, q.2.2.2.2⟩
abbrev mkWs (y : MethodName) (cc : ByteArray) (n : Nat) (ret : Option FieldType) : List Cond := Cond.code y cc n ret :: wsG
abbrev rmC (h mc ms : Nat) : Room := { frames := h, cells := mc, slots := ms, locals := 32 * h }
def CtI (l : Launch) (y : MethodName) (cc : ByteArray) (n : Nat) (ret : FieldType) (h : Nat) (D : va_G) (kA : Nat → ClassId) (sz : Nat) (wc : va_W) (av : List Value) (post : Int32 → va_W → Prop) : Prop := Met l y (mkWs y cc n (some ret)) (rmC h 0 0) (va_Pc av (cPre D kA sz wc)) (va_Qi post (cB D (va_A wc sz)) (va_A wc sz)) 0 0 (va_A wc sz)
def CtL (l : Launch) (y : MethodName) (cc : ByteArray) (n : Nat) (ret : FieldType) (h : Nat) (D : va_G) (kA : Nat → ClassId) (sz : Nat) (wc : va_W) (av : List Value) (post : Int64 → va_W → Prop) : Prop := Met l y (mkWs y cc n (some ret)) (rmC h 0 0) (va_Pc av (cPre D kA sz wc)) (va_Ql post (cB D (va_A wc sz)) (va_A wc sz)) 0 0 (va_A wc sz)
def CtD (l : Launch) (y : MethodName) (cc : ByteArray) (n : Nat) (ret : FieldType) (h : Nat) (D : va_G) (kA : Nat → ClassId) (sz : Nat) (wc : va_W) (av : List Value) (post : UInt64 → va_W → Prop) : Prop := Met l y (mkWs y cc n (some ret)) (rmC h 0 0) (va_Pc av (cPre D kA sz wc)) (va_Qd post (cB D (va_A wc sz)) (va_A wc sz)) 0 0 (va_A wc sz)
def CtV (l : Launch) (y : MethodName) (cc : ByteArray) (n : Nat) (h mc ms : Nat) (D : va_G) (kA : Nat → ClassId) (sz : Nat) (wc : va_W) (av : List Value) (post : va_W → Prop) : Prop := Met l y (mkWs y cc n none) (rmC h mc ms) (va_Pc av (cPre D kA sz wc)) (va_Qv post (cB D (va_A wc sz)) (va_A wc sz)) mc ms (va_A wc sz)
/-- the way into a method -/
theorem ct_in {l : Launch} {y : MethodName} {cc : ByteArray} {n : Nat} {ret : Option FieldType} {rm : Room} {D : va_G} {kA : Nat → ClassId} {sz : Nat} {wc : va_W} {av : List Value} {Qc : (Nat → Prop) → Array Value → State → Outcome → State → Prop} {mc ms : Nat} {own : String} (hy : plainName y.cls = true) (ho : y.cls = own) (hn : (lg_sl av).length ≤ n)
    (body : ∀ (p : Program) (e : Env) (s : State) (m : MethodId) (below : List Frame) (meth : Method) (c : Code) (A : Nat → Prop) (ls : Array Slot), CallFix p m c cc n s av.toArray wsG own → meth.sig.returnType = ret → meth.locks = false → meth.name = y.name → KK D kA s → (∀ q : Nat, s.heap.size ≤ q → A q) → va_P D vwCl wc s.heap → va_D A wc → va_S A s.heap s.heap [] → lv_has ls n (lv_args 0 av) → s.heap.size = sz →
      W p l e rm s m av.toArray below meth c s.heap [] 0 0 (MQ below (Qc A) av.toArray s mc ms A) (F0 m 0 ls [])) :
    Met l y (mkWs y cc n ret) rm (va_Pc av (cPre D kA sz wc)) (Qc (va_A wc sz)) mc ms (va_A wc sz) := by
  refine Met.ofW (cc := cc) (maxL := n) (ret := ret) hy rfl ?_
  intro p e s m args below meth c s₁ B hml hv
  obtain ⟨rfl, hsz, hP, hK, hD0⟩ := hv
  have hts := atoms_spec (ws := mkWs y cc n ret) B.pre
  have hown : s.vm.findClass own = some m.cls := by rw [← ho]; exact findClass_of_methodNamed B.named
  subst hsz
  have hD := hD0.self (sz := s.heap.size)
  have hl := lv_entry av (n := n) hn
  rw [lg_entry_eq]
  exact body p e s m below meth c _ _ ⟨B.exec, B.bytes, hml, hown, fun w h => hts w (List.mem_cons_of_mem _ h)⟩ B.returns B.notSynchronized (name_of_methodNamed B.named B.method).1 hK (fun q h => Or.inr h) hP hD va_S.rf hl rfl

section RT
variable {p : Program} {l : Launch} {e : Env} {R : Room} {s : State} {m : MethodId} {args : Array Value} {below : List Frame} {meth : Method} {c : Code} {H : Heap} {locs : List Loc} {cells slots : Nat} {cc : ByteArray} {pc : Nat} {ls : Array Slot} {D : va_G} {A : Nat → Prop}
theorem rt_i (hx : p.tables.exec = Jvm.exec) (hb : c.code = cc) (hr : meth.sig.returnType = some .int) (hlk : meth.locks = false) (u : va_W) {v : Int32} {post : Int32 → va_W → Prop} (hP : va_P D vwCl u H) (hD : va_D A u) (hS : va_S A s.heap H locs) (hdg : decode cc pc = .ok (.ireturn, 1)) (hq : post v u) : W p l e R s m args below meth c H locs cells slots (MQ below (va_Qi post (cB D A) A) args s cells slots A) (F0 m pc ls [.int v]) :=
  W.iret (v := v) hx hb hr (fun t ht _ => ⟨⟨v, u, rfl, hq, by rw [ht]; exact hP, hD⟩, hS.F ht⟩) hS.2.2 hdg hlk
theorem rt_z (hx : p.tables.exec = Jvm.exec) (hb : c.code = cc) (hr : meth.sig.returnType = some .boolean) (hlk : meth.locks = false) (u : va_W) {v : Int32} {post : Int32 → va_W → Prop} (hP : va_P D vwCl u H) (hD : va_D A u) (hS : va_S A s.heap H locs) (hdg : decode cc pc = .ok (.ireturn, 1)) (hn : narrow .boolean (.int v) = .int v) (hq : post v u) : W p l e R s m args below meth c H locs cells slots (MQ below (va_Qi post (cB D A) A) args s cells slots A) (F0 m pc ls [.int v]) :=
  W.zret (v := v) hx hb hr hn (fun t ht _ => ⟨⟨v, u, rfl, hq, by rw [ht]; exact hP, hD⟩, hS.F ht⟩) hS.2.2 hdg hlk
theorem rt_l (hx : p.tables.exec = Jvm.exec) (hb : c.code = cc) (hr : meth.sig.returnType = some .long) (hlk : meth.locks = false) (u : va_W) {v : Int64} {post : Int64 → va_W → Prop} (hP : va_P D vwCl u H) (hD : va_D A u) (hS : va_S A s.heap H locs) (hdg : decode cc pc = .ok (.lreturn, 1)) (hq : post v u) : W p l e R s m args below meth c H locs cells slots (MQ below (va_Ql post (cB D A) A) args s cells slots A) (F0 m pc ls [.long v]) :=
  W.lret (v := v) hx hb hr (fun t ht _ => ⟨⟨v, u, rfl, hq, by rw [ht]; exact hP, hD⟩, hS.F ht⟩) hS.2.2 hdg hlk
theorem rt_d (hx : p.tables.exec = Jvm.exec) (hb : c.code = cc) (hr : meth.sig.returnType = some .double) (hlk : meth.locks = false) (u : va_W) {v : UInt64} {post : UInt64 → va_W → Prop} (hP : va_P D vwCl u H) (hD : va_D A u) (hS : va_S A s.heap H locs) (hdg : decode cc pc = .ok (.dreturn, 1)) (hq : post v u) : W p l e R s m args below meth c H locs cells slots (MQ below (va_Qd post (cB D A) A) args s cells slots A) (F0 m pc ls [.double v]) :=
  W.dret (v := v) hx hb hr (fun t ht _ => ⟨⟨v, u, rfl, hq, by rw [ht]; exact hP, hD⟩, hS.F ht⟩) hS.2.2 hdg hlk
theorem rt_v (hx : p.tables.exec = Jvm.exec) (hb : c.code = cc) (hr : meth.sig.returnType = none) (hlk : meth.locks = false) (u : va_W) {post : va_W → Prop} (hP : va_P D vwCl u H) (hD : va_D A u) (hS : va_S A s.heap H locs) (hdg : decode cc pc = .ok (.return_, 1)) (hq : post u) : W p l e R s m args below meth c H locs cells slots (MQ below (va_Qv post (cB D A) A) args s cells slots A) (F0 m pc ls []) :=
  W.vret hx hb hr (fun t ht _ => ⟨⟨u, rfl, hq, by rw [ht]; exact hP, hD⟩, hS.F ht⟩) hS.2.2 hdg hlk
end RT
theorem P_iff {D : va_G} {cl : List vw_C} {ws : va_W} {H : Heap} : va_P D cl ws H ↔ ∀ q ∈ ws, va_at D cl q H := ⟨fun h q hq => by obtain ⟨i, hi⟩ := List.getElem?_of_mem hq; exact h i q hi, fun h k q hk => h q (List.mem_of_getElem? hk)⟩
theorem D_iff {A : Nat → Prop} {ws : va_W} : va_D A ws ↔ (ws.map Prod.fst).Nodup ∧ ∀ q ∈ ws, A q.1 := by
  constructor
  · intro h
    refine ⟨?_, fun q hq => by obtain ⟨i, hi⟩ := List.getElem?_of_mem hq; exact h.2 i q hi⟩
    refine List.pairwise_iff_getElem.mpr fun i j hi hj hij he => ?_
    rw [List.length_map] at hi hj
    rw [List.getElem_map, List.getElem_map] at he
    have := h.1 i j ws[i] ws[j] (List.getElem?_eq_getElem hi) (List.getElem?_eq_getElem hj) he
    omega
  · intro h
    refine ⟨fun i j p q hi hj he => ?_, fun k q hk => h.2 q (List.mem_of_getElem? hk)⟩
    obtain ⟨hi1, hi2⟩ := List.getElem?_eq_some_iff.mp hi
    obtain ⟨hj1, hj2⟩ := List.getElem?_eq_some_iff.mp hj
    have hn := List.pairwise_iff_getElem.mp h.1
    rcases Nat.lt_trichotomy i j with hij | hij | hij
    · exact absurd (by rw [List.getElem_map, List.getElem_map, hi2, hj2, he]) (hn i j (by rw [List.length_map]; exact hi1) (by rw [List.length_map]; exact hj1) hij)
    · exact hij
    · exact absurd (by rw [List.getElem_map, List.getElem_map, hi2, hj2, he]) (hn j i (by rw [List.length_map]; exact hj1) (by rw [List.length_map]; exact hi1) hij)
theorem va_A_iff {ws : va_W} {sz q : Nat} : va_A ws sz q ↔ q ∈ ws.map Prod.fst ∨ sz ≤ q := by
  constructor
  · rintro (⟨k, e, h⟩ | h)
    · exact Or.inl (List.mem_map.mpr ⟨(q, e), List.mem_of_getElem? h, rfl⟩)
    · exact Or.inr h
  · rintro (h | h)
    · obtain ⟨⟨a, e⟩, h1, rfl⟩ := List.mem_map.mp h
      obtain ⟨k, hk⟩ := List.getElem?_of_mem h1
      exact Or.inl ⟨k, e, hk⟩
    · exact Or.inr h
theorem P_mid {D : va_G} {cl : List vw_C} {l1 wc l2 : va_W} {H : Heap} (h : va_P D cl (l1 ++ (wc ++ l2)) H) : va_P D cl wc H := P_iff.mpr fun q hq => P_iff.mp h q (List.mem_append_right _ (List.mem_append_left _ hq))
theorem D_mid {A : Nat → Prop} {l1 wc l2 : va_W} (h : va_D A (l1 ++ (wc ++ l2))) : va_D A wc := by
  obtain ⟨h1, h2⟩ := D_iff.mp h
  refine D_iff.mpr ⟨?_, fun q hq => h2 q (List.mem_append_right _ (List.mem_append_left _ hq))⟩
  rw [List.map_append, List.map_append] at h1
  exact (List.nodup_append.mp (List.nodup_append.mp h1).2.1).1
theorem P_one {D : va_G} {cl : List vw_C} {ws : va_W} {H : Heap} (h : va_P D cl ws H) (k : Nat) {q : Nat × va_E} (hk : ws[k]? = some q) : va_P D cl [q] H := P_iff.mpr fun x hx => by rw [List.mem_singleton.mp hx]; exact h k q hk
theorem D_one {A : Nat → Prop} {ws : va_W} (h : va_D A ws) (k : Nat) {q : Nat × va_E} (hk : ws[k]? = some q) : va_D A [q] := D_iff.mpr ⟨List.pairwise_singleton _ _, fun x hx => by rw [List.mem_singleton.mp hx]; exact h.2 k q hk⟩
theorem P_nil {D : va_G} {cl : List vw_C} {H : Heap} : va_P D cl [] H := P_iff.mpr fun q hq => by cases hq
theorem D_nil {A : Nat → Prop} : va_D A [] := D_iff.mpr ⟨List.Pairwise.nil, fun q hq => by cases hq⟩
theorem fr_of {A : Nat → Prop} {wc : va_W} {H0 H : Heap} {locs : List Loc} (hDc : va_D A wc) (hS : va_S A H0 H locs) (hA : ∀ q, H0.size ≤ q → A q) : ∀ q, va_A wc H.size q → A q := by
  intro q h
  rcases va_A_iff.mp h with h | h
  · obtain ⟨x, h1, rfl⟩ := List.mem_map.mp h
    exact (D_iff.mp hDc).2 x h1
  · exact hA q (Nat.le_trans hS.1 h)
/-- behind a call on a part of the world that lies between l1 and l2 -/
theorem hp_seg {D : va_G} {cl : List vw_C} {A : Nat → Prop} {l1 wc l2 u : va_W} {H H1 : Heap} (hP : va_P D cl (l1 ++ (wc ++ l2)) H) (hD : va_D A (l1 ++ (wc ++ l2))) (hk : ∀ q : Nat, q < H.size → ¬ va_A wc H.size q → H1[q]? = H[q]?) (hF : ∀ q, va_A wc H.size q → A q) (hP1 : va_P D cl u H1) (hD1 : va_D (va_A wc H.size) u) : va_P D cl (l1 ++ (u ++ l2)) H1 ∧ va_D A (l1 ++ (u ++ l2)) := by
  obtain ⟨n0, a0⟩ := D_iff.mp hD
  obtain ⟨n1, a1⟩ := D_iff.mp hD1
  have hP' := P_iff.mp hP
  rw [List.map_append, List.map_append] at n0
  obtain ⟨m1, m2, m3⟩ := List.nodup_append.mp n0
  obtain ⟨m4, m5, m6⟩ := List.nodup_append.mp m2
  have out : ∀ q, (q ∈ l1 ∨ q ∈ l2) → q.1 < H.size ∧ ¬ va_A wc H.size q.1 := by
    intro q hq
    have hmem : q ∈ l1 ++ (wc ++ l2) := by
      rcases hq with h | h
      · exact List.mem_append_left _ h
      · exact List.mem_append_right _ (List.mem_append_right _ h)
    have hlt := (hP' q hmem).lt
    refine ⟨hlt, fun h => ?_⟩
    rcases va_A_iff.mp h with h | h
    · rcases hq with g | g
      · exact m3 q.1 (List.mem_map.mpr ⟨q, g, rfl⟩) q.1 (List.mem_append_left _ h) rfl
      · exact m6 q.1 h q.1 (List.mem_map.mpr ⟨q, g, rfl⟩) rfl
    · omega
  constructor
  · refine P_iff.mpr fun q hq => ?_
    rcases List.mem_append.mp hq with h | h
    · exact (hP' q (List.mem_append_left _ h)).kept (hk q.1 (out q (Or.inl h)).1 (out q (Or.inl h)).2)
    · rcases List.mem_append.mp h with h | h
      · exact P_iff.mp hP1 q h
      · exact (hP' q (List.mem_append_right _ (List.mem_append_right _ h))).kept (hk q.1 (out q (Or.inr h)).1 (out q (Or.inr h)).2)
  · refine D_iff.mpr ⟨?_, fun q hq => ?_⟩
    · rw [List.map_append, List.map_append]
      refine List.nodup_append.mpr ⟨m1, List.nodup_append.mpr ⟨n1, m5, fun a ha b hb hab => ?_⟩, fun a ha b hb hab => ?_⟩
      · obtain ⟨x, hx, rfl⟩ := List.mem_map.mp ha
        obtain ⟨z, hz, rfl⟩ := List.mem_map.mp hb
        exact (out z (Or.inr hz)).2 (hab ▸ a1 x hx)
      · obtain ⟨x, hx, rfl⟩ := List.mem_map.mp ha
        rcases List.mem_append.mp hb with hb | hb
        · obtain ⟨z, hz, rfl⟩ := List.mem_map.mp hb
          exact (out x (Or.inl hx)).2 (hab ▸ a1 z hz)
        · exact m3 x.1 (List.mem_map.mpr ⟨x, hx, rfl⟩) b (List.mem_append_right _ hb) hab
    · rcases List.mem_append.mp hq with h | h
      · exact a0 q (List.mem_append_left _ h)
      · rcases List.mem_append.mp h with h | h
        · exact hF q.1 (a1 q h)
        · exact a0 q (List.mem_append_right _ (List.mem_append_right _ h))
/-- behind a call on one cell of the world -/
theorem hp_set {D : va_G} {cl : List vw_C} {A : Nat → Prop} {ws : va_W} {a : Nat} {e0 e1 : va_E} {H H1 : Heap} (k : Nat) (hP : va_P D cl ws H) (hD : va_D A ws) (he : ws[k]? = some (a, e0)) (hk : ∀ q : Nat, q < H.size → ¬ va_A [(a, e0)] H.size q → H1[q]? = H[q]?) (hP1 : va_P D cl [(a, e1)] H1) : va_P D cl (ws.set k (a, e1)) H1 ∧ va_D A (ws.set k (a, e1)) := by
  have hl := (List.getElem?_eq_some_iff.mp he).1
  refine ⟨fun j q hj => ?_, hD.set he⟩
  by_cases hjk : j = k
  · subst hjk
    rw [List.getElem?_set_self hl] at hj
    cases hj
    exact hP1 0 _ rfl
  · rw [List.getElem?_set_ne (Ne.symm hjk)] at hj
    have hlt := (hP j q hj).lt
    refine (hP j q hj).kept (hk q.1 hlt fun h => ?_)
    rcases va_A_iff.mp h with h | h
    · rw [List.map_cons, List.map_nil] at h
      have h3 : q.1 = a := List.mem_singleton.mp h
      exact hjk (hD.1 j k q (a, e0) hj he h3)
    · omega
/-- behind a call that has no world -/
theorem hp_non {D : va_G} {cl : List vw_C} {ws : va_W} {H H1 : Heap} (hP : va_P D cl ws H) (hk : ∀ q : Nat, q < H.size → ¬ va_A [] H.size q → H1[q]? = H[q]?) : va_P D cl ws H1 := fun k q h => (hP k q h).kept (hk q.1 (hP k q h).lt fun g => by
  have hlt := (hP k q h).lt
  rcases va_A_iff.mp g with g | g
  · cases g
  · omega)

section CL
variable {p : Program} {l : Launch} {e : Env} {R : Room} {s : State} {m : MethodId} {args : Array Value} {below : List Frame} {meth : Method} {c : Code} {H H0 : Heap} {locs : List Loc} {cells slots : Nat} {Q : State → Prop} {cc bytes : ByteArray} {pc nL maxL index h : Nat} {ls : Array Slot} {D : va_G} {kA : Nat → ClassId} {A : Nat → Prop} {y : MethodName} {own C host : String} {ret : FieldType} {b : Nat} {As rest st0 : List Value} {wc : va_W}
theorem gd_all {r : Option FieldType} (w1 : Cond.code y bytes maxL r ∈ wsG) : GoodIn wsG (mkWs y bytes maxL r) := by
  intro w hw
  rcases List.mem_cons.mp hw with rfl | hw
  · exact ⟨w1, gw_good w1⟩
  · exact ⟨hw, gw_good hw⟩

theorem cl_V_i {post : Int32 → va_W → Prop} (F : CallFix p m c cc nL s args wsG own) (hK : KK D kA s) (hPc : va_P D vwCl wc H) (hDc : va_D A wc) (hS : va_S A H0 H locs) (hA : ∀ q, H0.size ≤ q → A q) (hM : CtI l y bytes maxL ret h D kA H.size wc (.ref b :: As) post) (w1 : Cond.code y bytes maxL (some ret) ∈ wsG) (w2 : Cond.initialized y.cls ∈ wsG) (w3 : Cond.methodLink own index y ∈ wsG) (w4 : Cond.instanceMethod y ∈ wsG) (w5 : Cond.selects C y y ∈ wsG) (hrv : ∃ cellB : Cell, H[b]? = some cellB ∧ cellB.vm.isStatics = false ∧ s.vm.findClass C = some cellB.cls) (hd : y.cls ≠ "java/lang/invoke/MethodHandle" ∧ y.cls ≠ "java/lang/invoke/VarHandle" ∧ (parseMethodDescriptor y.desc).map (fun d => d.parameters.length) = some As.length) (hR : h + 1 ≤ R.frames ∧ 8 + (maxL + 11) + 32 * h ≤ R.locals) (hsz : ls.size = nL) (hst : st0 = As.reverse ++ .ref b :: rest) (hsm : (rest.map fun v => v.category).sum ≤ 8) (hdg : decode cc pc = .ok (.invokevirtual index, 3)) (hf : cells ≤ R.cells ∧ slots ≤ R.slots) (kk : ∀ (r : Int32) (u : va_W) (H1 : Heap) (locs1 : List Loc), post r u → va_P D vwCl u H1 → va_D (va_A wc H.size) u → (∀ q : Nat, q < H.size → ¬ va_A wc H.size q → H1[q]? = H[q]?) → (∀ q, va_A wc H.size q → A q) → va_S A H0 H1 locs1 → W p l e R s m args below meth c H1 locs1 cells slots Q (F0 m (pc + 3) ls (.int r :: rest))) : W p l e R s m args below meth c H locs cells slots Q (F0 m pc ls st0) := by
  subst hst
  have hFc := fr_of hDc hS hA
  refine va_calli (va_runV (As := As) (rest := rest) F hM (⟨callB_of As.length F.2.2.2.2 (gd_all w1) rfl rfl rfl (F.2.2.2.2 _ w2) (F.2.2.2.2 _ w3) hd hR, F.2.2.2.2 _ w4, F.2.2.2.2 _ w5⟩) ⟨cPre.blind, hrv, fun U hU hW => ⟨rfl, by rw [hU], by rw [hU]; exact hPc, KK.warm hW hK, hDc.weaken (fun _ _ _ _ => trivial)⟩⟩ rfl rfl hsz rfl (lv_room hsm) hdg hf) hS (fun q _ h => hFc q h) hFc (fun r u t H1 locs1 ht hvm hw hB hz1 hk1 hS1 => ?_)
  exact kk r u H1 locs1 hw (by rw [← ht]; exact hB.1) hB.2 hk1 hFc hS1

theorem cl_V_l {post : Int64 → va_W → Prop} (F : CallFix p m c cc nL s args wsG own) (hK : KK D kA s) (hPc : va_P D vwCl wc H) (hDc : va_D A wc) (hS : va_S A H0 H locs) (hA : ∀ q, H0.size ≤ q → A q) (hM : CtL l y bytes maxL ret h D kA H.size wc (.ref b :: As) post) (w1 : Cond.code y bytes maxL (some ret) ∈ wsG) (w2 : Cond.initialized y.cls ∈ wsG) (w3 : Cond.methodLink own index y ∈ wsG) (w4 : Cond.instanceMethod y ∈ wsG) (w5 : Cond.selects C y y ∈ wsG) (hrv : ∃ cellB : Cell, H[b]? = some cellB ∧ cellB.vm.isStatics = false ∧ s.vm.findClass C = some cellB.cls) (hd : y.cls ≠ "java/lang/invoke/MethodHandle" ∧ y.cls ≠ "java/lang/invoke/VarHandle" ∧ (parseMethodDescriptor y.desc).map (fun d => d.parameters.length) = some As.length) (hR : h + 1 ≤ R.frames ∧ 8 + (maxL + 11) + 32 * h ≤ R.locals) (hsz : ls.size = nL) (hst : st0 = As.reverse ++ .ref b :: rest) (hsm : (rest.map fun v => v.category).sum ≤ 8) (hdg : decode cc pc = .ok (.invokevirtual index, 3)) (hf : cells ≤ R.cells ∧ slots ≤ R.slots) (kk : ∀ (r : Int64) (u : va_W) (H1 : Heap) (locs1 : List Loc), post r u → va_P D vwCl u H1 → va_D (va_A wc H.size) u → (∀ q : Nat, q < H.size → ¬ va_A wc H.size q → H1[q]? = H[q]?) → (∀ q, va_A wc H.size q → A q) → va_S A H0 H1 locs1 → W p l e R s m args below meth c H1 locs1 cells slots Q (F0 m (pc + 3) ls (.long r :: rest))) : W p l e R s m args below meth c H locs cells slots Q (F0 m pc ls st0) := by
  subst hst
  have hFc := fr_of hDc hS hA
  refine va_calll (va_runV (As := As) (rest := rest) F hM (⟨callB_of As.length F.2.2.2.2 (gd_all w1) rfl rfl rfl (F.2.2.2.2 _ w2) (F.2.2.2.2 _ w3) hd hR, F.2.2.2.2 _ w4, F.2.2.2.2 _ w5⟩) ⟨cPre.blind, hrv, fun U hU hW => ⟨rfl, by rw [hU], by rw [hU]; exact hPc, KK.warm hW hK, hDc.weaken (fun _ _ _ _ => trivial)⟩⟩ rfl rfl hsz rfl (lv_room hsm) hdg hf) hS (fun q _ h => hFc q h) hFc (fun r u t H1 locs1 ht hvm hw hB hz1 hk1 hS1 => ?_)
  exact kk r u H1 locs1 hw (by rw [← ht]; exact hB.1) hB.2 hk1 hFc hS1

theorem cl_V_d {post : UInt64 → va_W → Prop} (F : CallFix p m c cc nL s args wsG own) (hK : KK D kA s) (hPc : va_P D vwCl wc H) (hDc : va_D A wc) (hS : va_S A H0 H locs) (hA : ∀ q, H0.size ≤ q → A q) (hM : CtD l y bytes maxL ret h D kA H.size wc (.ref b :: As) post) (w1 : Cond.code y bytes maxL (some ret) ∈ wsG) (w2 : Cond.initialized y.cls ∈ wsG) (w3 : Cond.methodLink own index y ∈ wsG) (w4 : Cond.instanceMethod y ∈ wsG) (w5 : Cond.selects C y y ∈ wsG) (hrv : ∃ cellB : Cell, H[b]? = some cellB ∧ cellB.vm.isStatics = false ∧ s.vm.findClass C = some cellB.cls) (hd : y.cls ≠ "java/lang/invoke/MethodHandle" ∧ y.cls ≠ "java/lang/invoke/VarHandle" ∧ (parseMethodDescriptor y.desc).map (fun d => d.parameters.length) = some As.length) (hR : h + 1 ≤ R.frames ∧ 8 + (maxL + 11) + 32 * h ≤ R.locals) (hsz : ls.size = nL) (hst : st0 = As.reverse ++ .ref b :: rest) (hsm : (rest.map fun v => v.category).sum ≤ 8) (hdg : decode cc pc = .ok (.invokevirtual index, 3)) (hf : cells ≤ R.cells ∧ slots ≤ R.slots) (kk : ∀ (r : UInt64) (u : va_W) (H1 : Heap) (locs1 : List Loc), post r u → va_P D vwCl u H1 → va_D (va_A wc H.size) u → (∀ q : Nat, q < H.size → ¬ va_A wc H.size q → H1[q]? = H[q]?) → (∀ q, va_A wc H.size q → A q) → va_S A H0 H1 locs1 → W p l e R s m args below meth c H1 locs1 cells slots Q (F0 m (pc + 3) ls (.double r :: rest))) : W p l e R s m args below meth c H locs cells slots Q (F0 m pc ls st0) := by
  subst hst
  have hFc := fr_of hDc hS hA
  refine va_calld (va_runV (As := As) (rest := rest) F hM (⟨callB_of As.length F.2.2.2.2 (gd_all w1) rfl rfl rfl (F.2.2.2.2 _ w2) (F.2.2.2.2 _ w3) hd hR, F.2.2.2.2 _ w4, F.2.2.2.2 _ w5⟩) ⟨cPre.blind, hrv, fun U hU hW => ⟨rfl, by rw [hU], by rw [hU]; exact hPc, KK.warm hW hK, hDc.weaken (fun _ _ _ _ => trivial)⟩⟩ rfl rfl hsz rfl (lv_room hsm) hdg hf) hS (fun q _ h => hFc q h) hFc (fun r u t H1 locs1 ht hvm hw hB hz1 hk1 hS1 => ?_)
  exact kk r u H1 locs1 hw (by rw [← ht]; exact hB.1) hB.2 hk1 hFc hS1

theorem cl_V_v {post : va_W → Prop} {mc ms : Nat} (F : CallFix p m c cc nL s args wsG own) (hK : KK D kA s) (hPc : va_P D vwCl wc H) (hDc : va_D A wc) (hS : va_S A H0 H locs) (hA : ∀ q, H0.size ≤ q → A q) (hM : CtV l y bytes maxL h mc ms D kA H.size wc (.ref b :: As) post) (w1 : Cond.code y bytes maxL none ∈ wsG) (w2 : Cond.initialized y.cls ∈ wsG) (w3 : Cond.methodLink own index y ∈ wsG) (w4 : Cond.instanceMethod y ∈ wsG) (w5 : Cond.selects C y y ∈ wsG) (hrv : ∃ cellB : Cell, H[b]? = some cellB ∧ cellB.vm.isStatics = false ∧ s.vm.findClass C = some cellB.cls) (hd : y.cls ≠ "java/lang/invoke/MethodHandle" ∧ y.cls ≠ "java/lang/invoke/VarHandle" ∧ (parseMethodDescriptor y.desc).map (fun d => d.parameters.length) = some As.length) (hR : h + 1 ≤ R.frames ∧ 8 + (maxL + 11) + 32 * h ≤ R.locals) (hsz : ls.size = nL) (hst : st0 = As.reverse ++ .ref b :: rest) (hsm : (rest.map fun v => v.category).sum ≤ 8) (hdg : decode cc pc = .ok (.invokevirtual index, 3)) (hf : cells + mc ≤ R.cells ∧ slots + ms ≤ R.slots) (kk : ∀ (u : va_W) (H1 : Heap) (locs1 : List Loc), post u → va_P D vwCl u H1 → va_D (va_A wc H.size) u → (∀ q : Nat, q < H.size → ¬ va_A wc H.size q → H1[q]? = H[q]?) → (∀ q, va_A wc H.size q → A q) → va_S A H0 H1 locs1 → W p l e R s m args below meth c H1 locs1 (cells + mc) (slots + ms) Q (F0 m (pc + 3) ls rest)) : W p l e R s m args below meth c H locs cells slots Q (F0 m pc ls st0) := by
  subst hst
  have hFc := fr_of hDc hS hA
  refine va_callv (va_runV (As := As) (rest := rest) F hM (⟨callB_of As.length F.2.2.2.2 (gd_all w1) rfl rfl rfl (F.2.2.2.2 _ w2) (F.2.2.2.2 _ w3) hd hR, F.2.2.2.2 _ w4, F.2.2.2.2 _ w5⟩) ⟨cPre.blind, hrv, fun U hU hW => ⟨rfl, by rw [hU], by rw [hU]; exact hPc, KK.warm hW hK, hDc.weaken (fun _ _ _ _ => trivial)⟩⟩ rfl rfl hsz rfl (lv_room hsm) hdg hf) hS (fun q _ h => hFc q h) hFc (fun u t H1 locs1 ht hvm hw hB hz1 hk1 hS1 => ?_)
  exact kk u H1 locs1 hw (by rw [← ht]; exact hB.1) hB.2 hk1 hFc hS1

theorem cl_VN_i {post : Int32 → va_W → Prop} (F : CallFix p m c cc nL s args wsG own) (hK : KK D kA s) (hPc : va_P D vwCl wc H) (hDc : va_D A wc) (hS : va_S A H0 H locs) (hA : ∀ q, H0.size ≤ q → A q) (hM : CtI l y bytes maxL ret h D kA H.size wc (.ref b :: As) post) (w1 : Cond.code y bytes maxL (some ret) ∈ wsG) (w2 : Cond.initialized y.cls ∈ wsG) (w3 : Cond.methodLinkNest own index y host ∈ nwL) (w4 : Cond.instanceMethod y ∈ wsG) (w5 : Cond.selects C y y ∈ wsG) (hrv : ∃ cellB : Cell, H[b]? = some cellB ∧ cellB.vm.isStatics = false ∧ s.vm.findClass C = some cellB.cls) (hd : y.cls ≠ "java/lang/invoke/MethodHandle" ∧ y.cls ≠ "java/lang/invoke/VarHandle" ∧ (parseMethodDescriptor y.desc).map (fun d => d.parameters.length) = some As.length) (hR : h + 1 ≤ R.frames ∧ 8 + (maxL + 11) + 32 * h ≤ R.locals) (hsz : ls.size = nL) (hst : st0 = As.reverse ++ .ref b :: rest) (hsm : (rest.map fun v => v.category).sum ≤ 8) (hdg : decode cc pc = .ok (.invokevirtual index, 3)) (hf : cells ≤ R.cells ∧ slots ≤ R.slots) (kk : ∀ (r : Int32) (u : va_W) (H1 : Heap) (locs1 : List Loc), post r u → va_P D vwCl u H1 → va_D (va_A wc H.size) u → (∀ q : Nat, q < H.size → ¬ va_A wc H.size q → H1[q]? = H[q]?) → (∀ q, va_A wc H.size q → A q) → va_S A H0 H1 locs1 → W p l e R s m args below meth c H1 locs1 cells slots Q (F0 m (pc + 3) ls (.int r :: rest))) : W p l e R s m args below meth c H locs cells slots Q (F0 m pc ls st0) := by
  subst hst
  have hFc := fr_of hDc hS hA
  refine va_calli (va_runVN (As := As) (rest := rest) F hM (⟨va_cnB As.length F.2.2.2.2 (gd_all w1) rfl rfl rfl (hK.2.1 _ w3) (F.2.2.2.2 _ w2) hd hR, F.2.2.2.2 _ w4, F.2.2.2.2 _ w5⟩) ⟨cPre.blind, hrv, fun U hU hW => ⟨rfl, by rw [hU], by rw [hU]; exact hPc, KK.warm hW hK, hDc.weaken (fun _ _ _ _ => trivial)⟩⟩ rfl rfl hsz rfl (lv_room hsm) hdg hf) hS (fun q _ h => hFc q h) hFc (fun r u t H1 locs1 ht hvm hw hB hz1 hk1 hS1 => ?_)
  exact kk r u H1 locs1 hw (by rw [← ht]; exact hB.1) hB.2 hk1 hFc hS1

theorem cl_VN_l {post : Int64 → va_W → Prop} (F : CallFix p m c cc nL s args wsG own) (hK : KK D kA s) (hPc : va_P D vwCl wc H) (hDc : va_D A wc) (hS : va_S A H0 H locs) (hA : ∀ q, H0.size ≤ q → A q) (hM : CtL l y bytes maxL ret h D kA H.size wc (.ref b :: As) post) (w1 : Cond.code y bytes maxL (some ret) ∈ wsG) (w2 : Cond.initialized y.cls ∈ wsG) (w3 : Cond.methodLinkNest own index y host ∈ nwL) (w4 : Cond.instanceMethod y ∈ wsG) (w5 : Cond.selects C y y ∈ wsG) (hrv : ∃ cellB : Cell, H[b]? = some cellB ∧ cellB.vm.isStatics = false ∧ s.vm.findClass C = some cellB.cls) (hd : y.cls ≠ "java/lang/invoke/MethodHandle" ∧ y.cls ≠ "java/lang/invoke/VarHandle" ∧ (parseMethodDescriptor y.desc).map (fun d => d.parameters.length) = some As.length) (hR : h + 1 ≤ R.frames ∧ 8 + (maxL + 11) + 32 * h ≤ R.locals) (hsz : ls.size = nL) (hst : st0 = As.reverse ++ .ref b :: rest) (hsm : (rest.map fun v => v.category).sum ≤ 8) (hdg : decode cc pc = .ok (.invokevirtual index, 3)) (hf : cells ≤ R.cells ∧ slots ≤ R.slots) (kk : ∀ (r : Int64) (u : va_W) (H1 : Heap) (locs1 : List Loc), post r u → va_P D vwCl u H1 → va_D (va_A wc H.size) u → (∀ q : Nat, q < H.size → ¬ va_A wc H.size q → H1[q]? = H[q]?) → (∀ q, va_A wc H.size q → A q) → va_S A H0 H1 locs1 → W p l e R s m args below meth c H1 locs1 cells slots Q (F0 m (pc + 3) ls (.long r :: rest))) : W p l e R s m args below meth c H locs cells slots Q (F0 m pc ls st0) := by
  subst hst
  have hFc := fr_of hDc hS hA
  refine va_calll (va_runVN (As := As) (rest := rest) F hM (⟨va_cnB As.length F.2.2.2.2 (gd_all w1) rfl rfl rfl (hK.2.1 _ w3) (F.2.2.2.2 _ w2) hd hR, F.2.2.2.2 _ w4, F.2.2.2.2 _ w5⟩) ⟨cPre.blind, hrv, fun U hU hW => ⟨rfl, by rw [hU], by rw [hU]; exact hPc, KK.warm hW hK, hDc.weaken (fun _ _ _ _ => trivial)⟩⟩ rfl rfl hsz rfl (lv_room hsm) hdg hf) hS (fun q _ h => hFc q h) hFc (fun r u t H1 locs1 ht hvm hw hB hz1 hk1 hS1 => ?_)
  exact kk r u H1 locs1 hw (by rw [← ht]; exact hB.1) hB.2 hk1 hFc hS1

theorem cl_VN_d {post : UInt64 → va_W → Prop} (F : CallFix p m c cc nL s args wsG own) (hK : KK D kA s) (hPc : va_P D vwCl wc H) (hDc : va_D A wc) (hS : va_S A H0 H locs) (hA : ∀ q, H0.size ≤ q → A q) (hM : CtD l y bytes maxL ret h D kA H.size wc (.ref b :: As) post) (w1 : Cond.code y bytes maxL (some ret) ∈ wsG) (w2 : Cond.initialized y.cls ∈ wsG) (w3 : Cond.methodLinkNest own index y host ∈ nwL) (w4 : Cond.instanceMethod y ∈ wsG) (w5 : Cond.selects C y y ∈ wsG) (hrv : ∃ cellB : Cell, H[b]? = some cellB ∧ cellB.vm.isStatics = false ∧ s.vm.findClass C = some cellB.cls) (hd : y.cls ≠ "java/lang/invoke/MethodHandle" ∧ y.cls ≠ "java/lang/invoke/VarHandle" ∧ (parseMethodDescriptor y.desc).map (fun d => d.parameters.length) = some As.length) (hR : h + 1 ≤ R.frames ∧ 8 + (maxL + 11) + 32 * h ≤ R.locals) (hsz : ls.size = nL) (hst : st0 = As.reverse ++ .ref b :: rest) (hsm : (rest.map fun v => v.category).sum ≤ 8) (hdg : decode cc pc = .ok (.invokevirtual index, 3)) (hf : cells ≤ R.cells ∧ slots ≤ R.slots) (kk : ∀ (r : UInt64) (u : va_W) (H1 : Heap) (locs1 : List Loc), post r u → va_P D vwCl u H1 → va_D (va_A wc H.size) u → (∀ q : Nat, q < H.size → ¬ va_A wc H.size q → H1[q]? = H[q]?) → (∀ q, va_A wc H.size q → A q) → va_S A H0 H1 locs1 → W p l e R s m args below meth c H1 locs1 cells slots Q (F0 m (pc + 3) ls (.double r :: rest))) : W p l e R s m args below meth c H locs cells slots Q (F0 m pc ls st0) := by
  subst hst
  have hFc := fr_of hDc hS hA
  refine va_calld (va_runVN (As := As) (rest := rest) F hM (⟨va_cnB As.length F.2.2.2.2 (gd_all w1) rfl rfl rfl (hK.2.1 _ w3) (F.2.2.2.2 _ w2) hd hR, F.2.2.2.2 _ w4, F.2.2.2.2 _ w5⟩) ⟨cPre.blind, hrv, fun U hU hW => ⟨rfl, by rw [hU], by rw [hU]; exact hPc, KK.warm hW hK, hDc.weaken (fun _ _ _ _ => trivial)⟩⟩ rfl rfl hsz rfl (lv_room hsm) hdg hf) hS (fun q _ h => hFc q h) hFc (fun r u t H1 locs1 ht hvm hw hB hz1 hk1 hS1 => ?_)
  exact kk r u H1 locs1 hw (by rw [← ht]; exact hB.1) hB.2 hk1 hFc hS1

theorem cl_VN_v {post : va_W → Prop} {mc ms : Nat} (F : CallFix p m c cc nL s args wsG own) (hK : KK D kA s) (hPc : va_P D vwCl wc H) (hDc : va_D A wc) (hS : va_S A H0 H locs) (hA : ∀ q, H0.size ≤ q → A q) (hM : CtV l y bytes maxL h mc ms D kA H.size wc (.ref b :: As) post) (w1 : Cond.code y bytes maxL none ∈ wsG) (w2 : Cond.initialized y.cls ∈ wsG) (w3 : Cond.methodLinkNest own index y host ∈ nwL) (w4 : Cond.instanceMethod y ∈ wsG) (w5 : Cond.selects C y y ∈ wsG) (hrv : ∃ cellB : Cell, H[b]? = some cellB ∧ cellB.vm.isStatics = false ∧ s.vm.findClass C = some cellB.cls) (hd : y.cls ≠ "java/lang/invoke/MethodHandle" ∧ y.cls ≠ "java/lang/invoke/VarHandle" ∧ (parseMethodDescriptor y.desc).map (fun d => d.parameters.length) = some As.length) (hR : h + 1 ≤ R.frames ∧ 8 + (maxL + 11) + 32 * h ≤ R.locals) (hsz : ls.size = nL) (hst : st0 = As.reverse ++ .ref b :: rest) (hsm : (rest.map fun v => v.category).sum ≤ 8) (hdg : decode cc pc = .ok (.invokevirtual index, 3)) (hf : cells + mc ≤ R.cells ∧ slots + ms ≤ R.slots) (kk : ∀ (u : va_W) (H1 : Heap) (locs1 : List Loc), post u → va_P D vwCl u H1 → va_D (va_A wc H.size) u → (∀ q : Nat, q < H.size → ¬ va_A wc H.size q → H1[q]? = H[q]?) → (∀ q, va_A wc H.size q → A q) → va_S A H0 H1 locs1 → W p l e R s m args below meth c H1 locs1 (cells + mc) (slots + ms) Q (F0 m (pc + 3) ls rest)) : W p l e R s m args below meth c H locs cells slots Q (F0 m pc ls st0) := by
  subst hst
  have hFc := fr_of hDc hS hA
  refine va_callv (va_runVN (As := As) (rest := rest) F hM (⟨va_cnB As.length F.2.2.2.2 (gd_all w1) rfl rfl rfl (hK.2.1 _ w3) (F.2.2.2.2 _ w2) hd hR, F.2.2.2.2 _ w4, F.2.2.2.2 _ w5⟩) ⟨cPre.blind, hrv, fun U hU hW => ⟨rfl, by rw [hU], by rw [hU]; exact hPc, KK.warm hW hK, hDc.weaken (fun _ _ _ _ => trivial)⟩⟩ rfl rfl hsz rfl (lv_room hsm) hdg hf) hS (fun q _ h => hFc q h) hFc (fun u t H1 locs1 ht hvm hw hB hz1 hk1 hS1 => ?_)
  exact kk u H1 locs1 hw (by rw [← ht]; exact hB.1) hB.2 hk1 hFc hS1

theorem cl_S_i {post : Int32 → va_W → Prop} (F : CallFix p m c cc nL s args wsG own) (hK : KK D kA s) (hPc : va_P D vwCl wc H) (hDc : va_D A wc) (hS : va_S A H0 H locs) (hA : ∀ q, H0.size ≤ q → A q) (hM : CtI l y bytes maxL ret h D kA H.size wc As post) (w1 : Cond.code y bytes maxL (some ret) ∈ wsG) (w2 : Cond.initialized y.cls ∈ wsG) (w3 : Cond.methodLink own index y ∈ wsG) (w4 : Cond.static y ∈ wsG) (hd : y.cls ≠ "java/lang/invoke/MethodHandle" ∧ y.cls ≠ "java/lang/invoke/VarHandle" ∧ (parseMethodDescriptor y.desc).map (fun d => d.parameters.length) = some As.length) (hR : h + 1 ≤ R.frames ∧ 8 + (maxL + 11) + 32 * h ≤ R.locals) (hsz : ls.size = nL) (hst : st0 = As.reverse ++ rest) (hsm : (rest.map fun v => v.category).sum ≤ 8) (hdg : decode cc pc = .ok (.invokestatic index, 3)) (hf : cells ≤ R.cells ∧ slots ≤ R.slots) (kk : ∀ (r : Int32) (u : va_W) (H1 : Heap) (locs1 : List Loc), post r u → va_P D vwCl u H1 → va_D (va_A wc H.size) u → (∀ q : Nat, q < H.size → ¬ va_A wc H.size q → H1[q]? = H[q]?) → (∀ q, va_A wc H.size q → A q) → va_S A H0 H1 locs1 → W p l e R s m args below meth c H1 locs1 cells slots Q (F0 m (pc + 3) ls (.int r :: rest))) : W p l e R s m args below meth c H locs cells slots Q (F0 m pc ls st0) := by
  subst hst
  have hFc := fr_of hDc hS hA
  refine va_calli (va_runS (As := As) (rest := rest) F hM (⟨callB_of As.length F.2.2.2.2 (gd_all w1) rfl rfl rfl (F.2.2.2.2 _ w2) (F.2.2.2.2 _ w3) hd hR, F.2.2.2.2 _ w4⟩) ⟨cPre.blind, fun U hU hW => ⟨rfl, by rw [hU], by rw [hU]; exact hPc, KK.warm hW hK, hDc.weaken (fun _ _ _ _ => trivial)⟩⟩ rfl rfl hsz rfl (lv_room hsm) hdg hf) hS (fun q _ h => hFc q h) hFc (fun r u t H1 locs1 ht hvm hw hB hz1 hk1 hS1 => ?_)
  exact kk r u H1 locs1 hw (by rw [← ht]; exact hB.1) hB.2 hk1 hFc hS1

theorem cl_S_l {post : Int64 → va_W → Prop} (F : CallFix p m c cc nL s args wsG own) (hK : KK D kA s) (hPc : va_P D vwCl wc H) (hDc : va_D A wc) (hS : va_S A H0 H locs) (hA : ∀ q, H0.size ≤ q → A q) (hM : CtL l y bytes maxL ret h D kA H.size wc As post) (w1 : Cond.code y bytes maxL (some ret) ∈ wsG) (w2 : Cond.initialized y.cls ∈ wsG) (w3 : Cond.methodLink own index y ∈ wsG) (w4 : Cond.static y ∈ wsG) (hd : y.cls ≠ "java/lang/invoke/MethodHandle" ∧ y.cls ≠ "java/lang/invoke/VarHandle" ∧ (parseMethodDescriptor y.desc).map (fun d => d.parameters.length) = some As.length) (hR : h + 1 ≤ R.frames ∧ 8 + (maxL + 11) + 32 * h ≤ R.locals) (hsz : ls.size = nL) (hst : st0 = As.reverse ++ rest) (hsm : (rest.map fun v => v.category).sum ≤ 8) (hdg : decode cc pc = .ok (.invokestatic index, 3)) (hf : cells ≤ R.cells ∧ slots ≤ R.slots) (kk : ∀ (r : Int64) (u : va_W) (H1 : Heap) (locs1 : List Loc), post r u → va_P D vwCl u H1 → va_D (va_A wc H.size) u → (∀ q : Nat, q < H.size → ¬ va_A wc H.size q → H1[q]? = H[q]?) → (∀ q, va_A wc H.size q → A q) → va_S A H0 H1 locs1 → W p l e R s m args below meth c H1 locs1 cells slots Q (F0 m (pc + 3) ls (.long r :: rest))) : W p l e R s m args below meth c H locs cells slots Q (F0 m pc ls st0) := by
  subst hst
  have hFc := fr_of hDc hS hA
  refine va_calll (va_runS (As := As) (rest := rest) F hM (⟨callB_of As.length F.2.2.2.2 (gd_all w1) rfl rfl rfl (F.2.2.2.2 _ w2) (F.2.2.2.2 _ w3) hd hR, F.2.2.2.2 _ w4⟩) ⟨cPre.blind, fun U hU hW => ⟨rfl, by rw [hU], by rw [hU]; exact hPc, KK.warm hW hK, hDc.weaken (fun _ _ _ _ => trivial)⟩⟩ rfl rfl hsz rfl (lv_room hsm) hdg hf) hS (fun q _ h => hFc q h) hFc (fun r u t H1 locs1 ht hvm hw hB hz1 hk1 hS1 => ?_)
  exact kk r u H1 locs1 hw (by rw [← ht]; exact hB.1) hB.2 hk1 hFc hS1

theorem cl_S_d {post : UInt64 → va_W → Prop} (F : CallFix p m c cc nL s args wsG own) (hK : KK D kA s) (hPc : va_P D vwCl wc H) (hDc : va_D A wc) (hS : va_S A H0 H locs) (hA : ∀ q, H0.size ≤ q → A q) (hM : CtD l y bytes maxL ret h D kA H.size wc As post) (w1 : Cond.code y bytes maxL (some ret) ∈ wsG) (w2 : Cond.initialized y.cls ∈ wsG) (w3 : Cond.methodLink own index y ∈ wsG) (w4 : Cond.static y ∈ wsG) (hd : y.cls ≠ "java/lang/invoke/MethodHandle" ∧ y.cls ≠ "java/lang/invoke/VarHandle" ∧ (parseMethodDescriptor y.desc).map (fun d => d.parameters.length) = some As.length) (hR : h + 1 ≤ R.frames ∧ 8 + (maxL + 11) + 32 * h ≤ R.locals) (hsz : ls.size = nL) (hst : st0 = As.reverse ++ rest) (hsm : (rest.map fun v => v.category).sum ≤ 8) (hdg : decode cc pc = .ok (.invokestatic index, 3)) (hf : cells ≤ R.cells ∧ slots ≤ R.slots) (kk : ∀ (r : UInt64) (u : va_W) (H1 : Heap) (locs1 : List Loc), post r u → va_P D vwCl u H1 → va_D (va_A wc H.size) u → (∀ q : Nat, q < H.size → ¬ va_A wc H.size q → H1[q]? = H[q]?) → (∀ q, va_A wc H.size q → A q) → va_S A H0 H1 locs1 → W p l e R s m args below meth c H1 locs1 cells slots Q (F0 m (pc + 3) ls (.double r :: rest))) : W p l e R s m args below meth c H locs cells slots Q (F0 m pc ls st0) := by
  subst hst
  have hFc := fr_of hDc hS hA
  refine va_calld (va_runS (As := As) (rest := rest) F hM (⟨callB_of As.length F.2.2.2.2 (gd_all w1) rfl rfl rfl (F.2.2.2.2 _ w2) (F.2.2.2.2 _ w3) hd hR, F.2.2.2.2 _ w4⟩) ⟨cPre.blind, fun U hU hW => ⟨rfl, by rw [hU], by rw [hU]; exact hPc, KK.warm hW hK, hDc.weaken (fun _ _ _ _ => trivial)⟩⟩ rfl rfl hsz rfl (lv_room hsm) hdg hf) hS (fun q _ h => hFc q h) hFc (fun r u t H1 locs1 ht hvm hw hB hz1 hk1 hS1 => ?_)
  exact kk r u H1 locs1 hw (by rw [← ht]; exact hB.1) hB.2 hk1 hFc hS1

theorem cl_S_v {post : va_W → Prop} {mc ms : Nat} (F : CallFix p m c cc nL s args wsG own) (hK : KK D kA s) (hPc : va_P D vwCl wc H) (hDc : va_D A wc) (hS : va_S A H0 H locs) (hA : ∀ q, H0.size ≤ q → A q) (hM : CtV l y bytes maxL h mc ms D kA H.size wc As post) (w1 : Cond.code y bytes maxL none ∈ wsG) (w2 : Cond.initialized y.cls ∈ wsG) (w3 : Cond.methodLink own index y ∈ wsG) (w4 : Cond.static y ∈ wsG) (hd : y.cls ≠ "java/lang/invoke/MethodHandle" ∧ y.cls ≠ "java/lang/invoke/VarHandle" ∧ (parseMethodDescriptor y.desc).map (fun d => d.parameters.length) = some As.length) (hR : h + 1 ≤ R.frames ∧ 8 + (maxL + 11) + 32 * h ≤ R.locals) (hsz : ls.size = nL) (hst : st0 = As.reverse ++ rest) (hsm : (rest.map fun v => v.category).sum ≤ 8) (hdg : decode cc pc = .ok (.invokestatic index, 3)) (hf : cells + mc ≤ R.cells ∧ slots + ms ≤ R.slots) (kk : ∀ (u : va_W) (H1 : Heap) (locs1 : List Loc), post u → va_P D vwCl u H1 → va_D (va_A wc H.size) u → (∀ q : Nat, q < H.size → ¬ va_A wc H.size q → H1[q]? = H[q]?) → (∀ q, va_A wc H.size q → A q) → va_S A H0 H1 locs1 → W p l e R s m args below meth c H1 locs1 (cells + mc) (slots + ms) Q (F0 m (pc + 3) ls rest)) : W p l e R s m args below meth c H locs cells slots Q (F0 m pc ls st0) := by
  subst hst
  have hFc := fr_of hDc hS hA
  refine va_callv (va_runS (As := As) (rest := rest) F hM (⟨callB_of As.length F.2.2.2.2 (gd_all w1) rfl rfl rfl (F.2.2.2.2 _ w2) (F.2.2.2.2 _ w3) hd hR, F.2.2.2.2 _ w4⟩) ⟨cPre.blind, fun U hU hW => ⟨rfl, by rw [hU], by rw [hU]; exact hPc, KK.warm hW hK, hDc.weaken (fun _ _ _ _ => trivial)⟩⟩ rfl rfl hsz rfl (lv_room hsm) hdg hf) hS (fun q _ h => hFc q h) hFc (fun u t H1 locs1 ht hvm hw hB hz1 hk1 hS1 => ?_)
  exact kk u H1 locs1 hw (by rw [← ht]; exact hB.1) hB.2 hk1 hFc hS1

theorem cl_SN_i {post : Int32 → va_W → Prop} (F : CallFix p m c cc nL s args wsG own) (hK : KK D kA s) (hPc : va_P D vwCl wc H) (hDc : va_D A wc) (hS : va_S A H0 H locs) (hA : ∀ q, H0.size ≤ q → A q) (hM : CtI l y bytes maxL ret h D kA H.size wc As post) (w1 : Cond.code y bytes maxL (some ret) ∈ wsG) (w2 : Cond.initialized y.cls ∈ wsG) (w3 : Cond.methodLinkNest own index y host ∈ nwL) (w4 : Cond.static y ∈ wsG) (hd : y.cls ≠ "java/lang/invoke/MethodHandle" ∧ y.cls ≠ "java/lang/invoke/VarHandle" ∧ (parseMethodDescriptor y.desc).map (fun d => d.parameters.length) = some As.length) (hR : h + 1 ≤ R.frames ∧ 8 + (maxL + 11) + 32 * h ≤ R.locals) (hsz : ls.size = nL) (hst : st0 = As.reverse ++ rest) (hsm : (rest.map fun v => v.category).sum ≤ 8) (hdg : decode cc pc = .ok (.invokestatic index, 3)) (hf : cells ≤ R.cells ∧ slots ≤ R.slots) (kk : ∀ (r : Int32) (u : va_W) (H1 : Heap) (locs1 : List Loc), post r u → va_P D vwCl u H1 → va_D (va_A wc H.size) u → (∀ q : Nat, q < H.size → ¬ va_A wc H.size q → H1[q]? = H[q]?) → (∀ q, va_A wc H.size q → A q) → va_S A H0 H1 locs1 → W p l e R s m args below meth c H1 locs1 cells slots Q (F0 m (pc + 3) ls (.int r :: rest))) : W p l e R s m args below meth c H locs cells slots Q (F0 m pc ls st0) := by
  subst hst
  have hFc := fr_of hDc hS hA
  refine va_calli (va_runSN (As := As) (rest := rest) F hM (⟨va_cnB As.length F.2.2.2.2 (gd_all w1) rfl rfl rfl (hK.2.1 _ w3) (F.2.2.2.2 _ w2) hd hR, F.2.2.2.2 _ w4, trivial⟩) ⟨cPre.blind, fun U hU hW => ⟨rfl, by rw [hU], by rw [hU]; exact hPc, KK.warm hW hK, hDc.weaken (fun _ _ _ _ => trivial)⟩⟩ rfl rfl hsz rfl (lv_room hsm) hdg hf) hS (fun q _ h => hFc q h) hFc (fun r u t H1 locs1 ht hvm hw hB hz1 hk1 hS1 => ?_)
  exact kk r u H1 locs1 hw (by rw [← ht]; exact hB.1) hB.2 hk1 hFc hS1

theorem cl_SN_l {post : Int64 → va_W → Prop} (F : CallFix p m c cc nL s args wsG own) (hK : KK D kA s) (hPc : va_P D vwCl wc H) (hDc : va_D A wc) (hS : va_S A H0 H locs) (hA : ∀ q, H0.size ≤ q → A q) (hM : CtL l y bytes maxL ret h D kA H.size wc As post) (w1 : Cond.code y bytes maxL (some ret) ∈ wsG) (w2 : Cond.initialized y.cls ∈ wsG) (w3 : Cond.methodLinkNest own index y host ∈ nwL) (w4 : Cond.static y ∈ wsG) (hd : y.cls ≠ "java/lang/invoke/MethodHandle" ∧ y.cls ≠ "java/lang/invoke/VarHandle" ∧ (parseMethodDescriptor y.desc).map (fun d => d.parameters.length) = some As.length) (hR : h + 1 ≤ R.frames ∧ 8 + (maxL + 11) + 32 * h ≤ R.locals) (hsz : ls.size = nL) (hst : st0 = As.reverse ++ rest) (hsm : (rest.map fun v => v.category).sum ≤ 8) (hdg : decode cc pc = .ok (.invokestatic index, 3)) (hf : cells ≤ R.cells ∧ slots ≤ R.slots) (kk : ∀ (r : Int64) (u : va_W) (H1 : Heap) (locs1 : List Loc), post r u → va_P D vwCl u H1 → va_D (va_A wc H.size) u → (∀ q : Nat, q < H.size → ¬ va_A wc H.size q → H1[q]? = H[q]?) → (∀ q, va_A wc H.size q → A q) → va_S A H0 H1 locs1 → W p l e R s m args below meth c H1 locs1 cells slots Q (F0 m (pc + 3) ls (.long r :: rest))) : W p l e R s m args below meth c H locs cells slots Q (F0 m pc ls st0) := by
  subst hst
  have hFc := fr_of hDc hS hA
  refine va_calll (va_runSN (As := As) (rest := rest) F hM (⟨va_cnB As.length F.2.2.2.2 (gd_all w1) rfl rfl rfl (hK.2.1 _ w3) (F.2.2.2.2 _ w2) hd hR, F.2.2.2.2 _ w4, trivial⟩) ⟨cPre.blind, fun U hU hW => ⟨rfl, by rw [hU], by rw [hU]; exact hPc, KK.warm hW hK, hDc.weaken (fun _ _ _ _ => trivial)⟩⟩ rfl rfl hsz rfl (lv_room hsm) hdg hf) hS (fun q _ h => hFc q h) hFc (fun r u t H1 locs1 ht hvm hw hB hz1 hk1 hS1 => ?_)
  exact kk r u H1 locs1 hw (by rw [← ht]; exact hB.1) hB.2 hk1 hFc hS1

theorem cl_SN_d {post : UInt64 → va_W → Prop} (F : CallFix p m c cc nL s args wsG own) (hK : KK D kA s) (hPc : va_P D vwCl wc H) (hDc : va_D A wc) (hS : va_S A H0 H locs) (hA : ∀ q, H0.size ≤ q → A q) (hM : CtD l y bytes maxL ret h D kA H.size wc As post) (w1 : Cond.code y bytes maxL (some ret) ∈ wsG) (w2 : Cond.initialized y.cls ∈ wsG) (w3 : Cond.methodLinkNest own index y host ∈ nwL) (w4 : Cond.static y ∈ wsG) (hd : y.cls ≠ "java/lang/invoke/MethodHandle" ∧ y.cls ≠ "java/lang/invoke/VarHandle" ∧ (parseMethodDescriptor y.desc).map (fun d => d.parameters.length) = some As.length) (hR : h + 1 ≤ R.frames ∧ 8 + (maxL + 11) + 32 * h ≤ R.locals) (hsz : ls.size = nL) (hst : st0 = As.reverse ++ rest) (hsm : (rest.map fun v => v.category).sum ≤ 8) (hdg : decode cc pc = .ok (.invokestatic index, 3)) (hf : cells ≤ R.cells ∧ slots ≤ R.slots) (kk : ∀ (r : UInt64) (u : va_W) (H1 : Heap) (locs1 : List Loc), post r u → va_P D vwCl u H1 → va_D (va_A wc H.size) u → (∀ q : Nat, q < H.size → ¬ va_A wc H.size q → H1[q]? = H[q]?) → (∀ q, va_A wc H.size q → A q) → va_S A H0 H1 locs1 → W p l e R s m args below meth c H1 locs1 cells slots Q (F0 m (pc + 3) ls (.double r :: rest))) : W p l e R s m args below meth c H locs cells slots Q (F0 m pc ls st0) := by
  subst hst
  have hFc := fr_of hDc hS hA
  refine va_calld (va_runSN (As := As) (rest := rest) F hM (⟨va_cnB As.length F.2.2.2.2 (gd_all w1) rfl rfl rfl (hK.2.1 _ w3) (F.2.2.2.2 _ w2) hd hR, F.2.2.2.2 _ w4, trivial⟩) ⟨cPre.blind, fun U hU hW => ⟨rfl, by rw [hU], by rw [hU]; exact hPc, KK.warm hW hK, hDc.weaken (fun _ _ _ _ => trivial)⟩⟩ rfl rfl hsz rfl (lv_room hsm) hdg hf) hS (fun q _ h => hFc q h) hFc (fun r u t H1 locs1 ht hvm hw hB hz1 hk1 hS1 => ?_)
  exact kk r u H1 locs1 hw (by rw [← ht]; exact hB.1) hB.2 hk1 hFc hS1

theorem cl_SN_v {post : va_W → Prop} {mc ms : Nat} (F : CallFix p m c cc nL s args wsG own) (hK : KK D kA s) (hPc : va_P D vwCl wc H) (hDc : va_D A wc) (hS : va_S A H0 H locs) (hA : ∀ q, H0.size ≤ q → A q) (hM : CtV l y bytes maxL h mc ms D kA H.size wc As post) (w1 : Cond.code y bytes maxL none ∈ wsG) (w2 : Cond.initialized y.cls ∈ wsG) (w3 : Cond.methodLinkNest own index y host ∈ nwL) (w4 : Cond.static y ∈ wsG) (hd : y.cls ≠ "java/lang/invoke/MethodHandle" ∧ y.cls ≠ "java/lang/invoke/VarHandle" ∧ (parseMethodDescriptor y.desc).map (fun d => d.parameters.length) = some As.length) (hR : h + 1 ≤ R.frames ∧ 8 + (maxL + 11) + 32 * h ≤ R.locals) (hsz : ls.size = nL) (hst : st0 = As.reverse ++ rest) (hsm : (rest.map fun v => v.category).sum ≤ 8) (hdg : decode cc pc = .ok (.invokestatic index, 3)) (hf : cells + mc ≤ R.cells ∧ slots + ms ≤ R.slots) (kk : ∀ (u : va_W) (H1 : Heap) (locs1 : List Loc), post u → va_P D vwCl u H1 → va_D (va_A wc H.size) u → (∀ q : Nat, q < H.size → ¬ va_A wc H.size q → H1[q]? = H[q]?) → (∀ q, va_A wc H.size q → A q) → va_S A H0 H1 locs1 → W p l e R s m args below meth c H1 locs1 (cells + mc) (slots + ms) Q (F0 m (pc + 3) ls rest)) : W p l e R s m args below meth c H locs cells slots Q (F0 m pc ls st0) := by
  subst hst
  have hFc := fr_of hDc hS hA
  refine va_callv (va_runSN (As := As) (rest := rest) F hM (⟨va_cnB As.length F.2.2.2.2 (gd_all w1) rfl rfl rfl (hK.2.1 _ w3) (F.2.2.2.2 _ w2) hd hR, F.2.2.2.2 _ w4, trivial⟩) ⟨cPre.blind, fun U hU hW => ⟨rfl, by rw [hU], by rw [hU]; exact hPc, KK.warm hW hK, hDc.weaken (fun _ _ _ _ => trivial)⟩⟩ rfl rfl hsz rfl (lv_room hsm) hdg hf) hS (fun q _ h => hFc q h) hFc (fun u t H1 locs1 ht hvm hw hB hz1 hk1 hS1 => ?_)
  exact kk u H1 locs1 hw (by rw [← ht]; exact hB.1) hB.2 hk1 hFc hS1

theorem cl_I_v {post : va_W → Prop} {mc ms : Nat} (F : CallFix p m c cc nL s args wsG own) (hK : KK D kA s) (hPc : va_P D vwCl wc H) (hDc : va_D A wc) (hS : va_S A H0 H locs) (hA : ∀ q, H0.size ≤ q → A q) (hM : CtV l y bytes maxL h mc ms D kA H.size wc (.ref b :: As) post) (w1 : Cond.code y bytes maxL none ∈ wsG) (w2 : Cond.initialized y.cls ∈ wsG) (w3 : Cond.methodLink own index y ∈ wsG) (w4 : Cond.instanceMethod y ∈ wsG) (hyn : y.name = "<init>") (hd : y.cls ≠ "java/lang/invoke/MethodHandle" ∧ y.cls ≠ "java/lang/invoke/VarHandle" ∧ (parseMethodDescriptor y.desc).map (fun d => d.parameters.length) = some As.length) (hR : h + 1 ≤ R.frames ∧ 8 + (maxL + 11) + 32 * h ≤ R.locals) (hsz : ls.size = nL) (hst : st0 = As.reverse ++ .ref b :: rest) (hsm : (rest.map fun v => v.category).sum ≤ 8) (hdg : decode cc pc = .ok (.invokespecial index, 3)) (hf : cells + mc ≤ R.cells ∧ slots + ms ≤ R.slots) (kk : ∀ (u : va_W) (H1 : Heap) (locs1 : List Loc), post u → va_P D vwCl u H1 → va_D (va_A wc H.size) u → (∀ q : Nat, q < H.size → ¬ va_A wc H.size q → H1[q]? = H[q]?) → (∀ q, va_A wc H.size q → A q) → va_S A H0 H1 locs1 → W p l e R s m args below meth c H1 locs1 (cells + mc) (slots + ms) Q (F0 m (pc + 3) ls rest)) : W p l e R s m args below meth c H locs cells slots Q (F0 m pc ls st0) := by
  subst hst
  have hFc := fr_of hDc hS hA
  refine va_callv (va_runI (As := As) (rest := rest) F hM (⟨callB_of As.length F.2.2.2.2 (gd_all w1) rfl rfl rfl (F.2.2.2.2 _ w2) (F.2.2.2.2 _ w3) hd hR, hyn, F.2.2.2.2 _ w4⟩) ⟨cPre.blind, fun U hU hW => ⟨rfl, by rw [hU], by rw [hU]; exact hPc, KK.warm hW hK, hDc.weaken (fun _ _ _ _ => trivial)⟩⟩ rfl rfl hsz rfl (lv_room hsm) hdg hf) hS (fun q _ h => hFc q h) hFc (fun u t H1 locs1 ht hvm hw hB hz1 hk1 hS1 => ?_)
  exact kk u H1 locs1 hw (by rw [← ht]; exact hB.1) hB.2 hk1 hFc hS1

theorem cl_IN_v {post : va_W → Prop} {mc ms : Nat} (F : CallFix p m c cc nL s args wsG own) (hK : KK D kA s) (hPc : va_P D vwCl wc H) (hDc : va_D A wc) (hS : va_S A H0 H locs) (hA : ∀ q, H0.size ≤ q → A q) (hM : CtV l y bytes maxL h mc ms D kA H.size wc (.ref b :: As) post) (w1 : Cond.code y bytes maxL none ∈ wsG) (w2 : Cond.initialized y.cls ∈ wsG) (w3 : Cond.methodLinkNest own index y host ∈ nwL) (w4 : Cond.instanceMethod y ∈ wsG) (hyn : y.name = "<init>") (hd : y.cls ≠ "java/lang/invoke/MethodHandle" ∧ y.cls ≠ "java/lang/invoke/VarHandle" ∧ (parseMethodDescriptor y.desc).map (fun d => d.parameters.length) = some As.length) (hR : h + 1 ≤ R.frames ∧ 8 + (maxL + 11) + 32 * h ≤ R.locals) (hsz : ls.size = nL) (hst : st0 = As.reverse ++ .ref b :: rest) (hsm : (rest.map fun v => v.category).sum ≤ 8) (hdg : decode cc pc = .ok (.invokespecial index, 3)) (hf : cells + mc ≤ R.cells ∧ slots + ms ≤ R.slots) (kk : ∀ (u : va_W) (H1 : Heap) (locs1 : List Loc), post u → va_P D vwCl u H1 → va_D (va_A wc H.size) u → (∀ q : Nat, q < H.size → ¬ va_A wc H.size q → H1[q]? = H[q]?) → (∀ q, va_A wc H.size q → A q) → va_S A H0 H1 locs1 → W p l e R s m args below meth c H1 locs1 (cells + mc) (slots + ms) Q (F0 m (pc + 3) ls rest)) : W p l e R s m args below meth c H locs cells slots Q (F0 m pc ls st0) := by
  subst hst
  have hFc := fr_of hDc hS hA
  refine va_callv (va_runIN (As := As) (rest := rest) F hM (⟨va_cnB As.length F.2.2.2.2 (gd_all w1) rfl rfl rfl (hK.2.1 _ w3) (F.2.2.2.2 _ w2) hd hR, hyn, F.2.2.2.2 _ w4⟩) ⟨cPre.blind, fun U hU hW => ⟨rfl, by rw [hU], by rw [hU]; exact hPc, KK.warm hW hK, hDc.weaken (fun _ _ _ _ => trivial)⟩⟩ rfl rfl hsz rfl (lv_room hsm) hdg hf) hS (fun q _ h => hFc q h) hFc (fun u t H1 locs1 ht hvm hw hB hz1 hk1 hS1 => ?_)
  exact kk u H1 locs1 hw (by rw [← ht]; exact hB.1) hB.2 hk1 hFc hS1

end CL

section FA
variable {p : Program} {l : Launch} {e : Env} {R : Room} {s : State} {m : MethodId} {args : Array Value} {below : List Frame} {meth : Method} {c : Code} {H H0 : Heap} {locs : List Loc} {cells slots : Nat} {Q : State → Prop} {cc : ByteArray} {pc nL : Nat} {ls : Array Slot} {rest : List Value} {D : va_G} {kA : Nat → ClassId} {A : Nat → Prop} {a : Nat} {ws : va_W} {own C host : String} {T : u_T} {N ci index : Nat} {fs : List Value} {v : Value}
theorem g_get (F : CallFix p m c cc nL s args wsG own) (hK : KK D kA s) (hP : va_P D vwCl ws H) (hin : ∀ w ∈ u_ws C T N, w ∈ wsG) (q0 : Nat) (he : ws[q0]? = some (a, .inr (ci, fs))) (hc : vwCl[ci]? = some (C, T, N)) (k : Nat) (hk : k < N) (hl : Cond.fieldLink own index C (T k).2.1 (T k).2.2.1 ∈ wsG) (hs : (T k).1 = C) (hv : fs[k]? = some v) (hdg : decode cc pc = .ok (.getfield index, 3)) (kk : W p l e R s m args below meth c H locs cells slots Q (F0 m (pc + 3) ls (v :: rest))) : W p l e R s m args below meth c H locs cells slots Q (F0 m pc ls (.ref a :: rest)) :=
  va_get F.1 F.2.1 F.2.2.2.2 hin F.2.2.2.1 hK.1 hP q0 he hc k hk (F.2.2.2.2 _ hl) (fun x h => by rw [← hs]; exact h) hv hdg kk
theorem g_getN (F : CallFix p m c cc nL s args wsG own) (hK : KK D kA s) (hP : va_P D vwCl ws H) (hin : ∀ w ∈ u_ws C T N, w ∈ wsG) (q0 : Nat) (he : ws[q0]? = some (a, .inr (ci, fs))) (hc : vwCl[ci]? = some (C, T, N)) (k : Nat) (hk : k < N) (hl : Cond.fieldLinkNest own index C (T k).2.1 (T k).2.2.1 host ∈ nwL) (hs : (T k).1 = C) (hv : fs[k]? = some v) (hdg : decode cc pc = .ok (.getfield index, 3)) (kk : W p l e R s m args below meth c H locs cells slots Q (F0 m (pc + 3) ls (v :: rest))) : W p l e R s m args below meth c H locs cells slots Q (F0 m pc ls (.ref a :: rest)) :=
  va_getN F.1 F.2.1 F.2.2.2.2 hin F.2.2.2.1 hK.1 hP q0 he hc k hk (hK.nw hl _) (fun x h => by rw [← hs]; exact h) hv hdg kk
theorem g_put (F : CallFix p m c cc nL s args wsG own) (hK : KK D kA s) (hP : va_P D vwCl ws H) (hD : va_D A ws) (hS : va_S A H0 H locs) (hin : ∀ w ∈ u_ws C T N, w ∈ wsG) {ty0 : Nat → FieldType} (hty : ∀ k, k < N → parseFieldDescriptor (T k).2.2.1 = some (ty0 k)) (hnm : ∀ a, a < N → ∀ b, b < N → a ≠ b → (T a).2.1 ≠ (T b).2.1) (q0 : Nat) (he : ws[q0]? = some (a, .inr (ci, fs))) (hc : vwCl[ci]? = some (C, T, N)) (k : Nat) (hk : k < N) (hl : Cond.fieldLink own index C (T k).2.1 (T k).2.2.1 ∈ wsG) (hs : (T k).1 = C) (hfin : (T k).2.2.2 = false) (hn : narrow (ty0 k) v = v) (hfit : fits (ty0 k) v = true) (hlen : k < fs.length) (hdg : decode cc pc = .ok (.putfield index, 3))
    (kk : ∀ (H1 : Heap) (locs1 : List Loc), va_P D vwCl (ws.set q0 (a, .inr (ci, fs.set k v))) H1 → va_D A (ws.set q0 (a, .inr (ci, fs.set k v))) → va_S A H0 H1 locs1 → W p l e R s m args below meth c H1 locs1 cells slots Q (F0 m (pc + 3) ls rest)) : W p l e R s m args below meth c H locs cells slots Q (F0 m pc ls (v :: .ref a :: rest)) :=
  va_put F.1 F.2.1 F.2.2.2.2 hin ty0 hty hnm F.2.2.2.1 hK.1 hP hD hS q0 he hc k hk (F.2.2.2.2 _ hl) (fun x h => by rw [← hs]; exact h) hfin (hty k hk) hn hfit hlen hdg kk
theorem g_putN (F : CallFix p m c cc nL s args wsG own) (hK : KK D kA s) (hP : va_P D vwCl ws H) (hD : va_D A ws) (hS : va_S A H0 H locs) (hin : ∀ w ∈ u_ws C T N, w ∈ wsG) {ty0 : Nat → FieldType} (hty : ∀ k, k < N → parseFieldDescriptor (T k).2.2.1 = some (ty0 k)) (hnm : ∀ a, a < N → ∀ b, b < N → a ≠ b → (T a).2.1 ≠ (T b).2.1) (q0 : Nat) (he : ws[q0]? = some (a, .inr (ci, fs))) (hc : vwCl[ci]? = some (C, T, N)) (k : Nat) (hk : k < N) (hl : Cond.fieldLinkNest own index C (T k).2.1 (T k).2.2.1 host ∈ nwL) (hs : (T k).1 = C) (hfin : (T k).2.2.2 = false) (hn : narrow (ty0 k) v = v) (hfit : fits (ty0 k) v = true) (hlen : k < fs.length) (hdg : decode cc pc = .ok (.putfield index, 3))
    (kk : ∀ (H1 : Heap) (locs1 : List Loc), va_P D vwCl (ws.set q0 (a, .inr (ci, fs.set k v))) H1 → va_D A (ws.set q0 (a, .inr (ci, fs.set k v))) → va_S A H0 H1 locs1 → W p l e R s m args below meth c H1 locs1 cells slots Q (F0 m (pc + 3) ls rest)) : W p l e R s m args below meth c H locs cells slots Q (F0 m pc ls (v :: .ref a :: rest)) :=
  va_putN F.1 F.2.1 F.2.2.2.2 hin ty0 hty hnm F.2.2.2.1 hK.1 hP hD hS q0 he hc k hk (hK.nw hl _) (fun x h => by rw [← hs]; exact h) hfin (hty k hk) hn hfit hlen hdg kk
theorem g_putF (F : CallFix p m c cc nL s args wsG own) (hK : KK D kA s) (hP : va_P D vwCl ws H) (hD : va_D A ws) (hS : va_S A H0 H locs) (hin : ∀ w ∈ u_ws C T N, w ∈ wsG) {ty0 : Nat → FieldType} (hty : ∀ k, k < N → parseFieldDescriptor (T k).2.2.1 = some (ty0 k)) (hnm : ∀ a, a < N → ∀ b, b < N → a ≠ b → (T a).2.1 ≠ (T b).2.1) (q0 : Nat) (he : ws[q0]? = some (a, .inr (ci, fs))) (hc : vwCl[ci]? = some (C, T, N)) (k : Nat) (hk : k < N) (hl : Cond.fieldLink own index C (T k).2.1 (T k).2.2.1 ∈ wsG) (hs : (T k).1 = C) (hfin : (T k).2.2.2 = true) (hin2 : meth.name = "<init>") (ho : C = own) (hn : narrow (ty0 k) v = v) (hfit : fits (ty0 k) v = true) (hlen : k < fs.length) (hdg : decode cc pc = .ok (.putfield index, 3))
    (kk : ∀ (H1 : Heap) (locs1 : List Loc), va_P D vwCl (ws.set q0 (a, .inr (ci, fs.set k v))) H1 → va_D A (ws.set q0 (a, .inr (ci, fs.set k v))) → va_S A H0 H1 locs1 → W p l e R s m args below meth c H1 locs1 cells slots Q (F0 m (pc + 3) ls rest)) : W p l e R s m args below meth c H locs cells slots Q (F0 m pc ls (v :: .ref a :: rest)) :=
  va_putF F.1 F.2.1 F.2.2.2.2 hin ty0 hty hnm F.2.2.2.1 hK.1 hP hD hS q0 he hc k hk (F.2.2.2.2 _ hl) (fun x h => by rw [← hs]; exact h) hfin hin2 (hs.trans ho) (hty k hk) hn hfit hlen hdg kk
end FA

set_option maxRecDepth 20000 in
theorem inX0 : ∀ w ∈ u_ws RX0 TX0 5, w ∈ wsG := fun w h => List.mem_filter.mpr ⟨(show ∀ w ∈ u_ws RX0 TX0 5, w ∈ lw_tbl by decide +kernel) w h, (show ∀ w ∈ u_ws RX0 TX0 5, goodWord w = true by decide +kernel) w h⟩
set_option maxRecDepth 20000 in
theorem inX1 : ∀ w ∈ u_ws RX1 TX1 2, w ∈ wsG := fun w h => List.mem_filter.mpr ⟨(show ∀ w ∈ u_ws RX1 TX1 2, w ∈ lw_tbl by decide +kernel) w h, (show ∀ w ∈ u_ws RX1 TX1 2, goodWord w = true by decide +kernel) w h⟩
set_option maxRecDepth 20000 in
theorem inX2 : ∀ w ∈ u_ws RX2 TX2 4, w ∈ wsG := fun w h => List.mem_filter.mpr ⟨(show ∀ w ∈ u_ws RX2 TX2 4, w ∈ lw_tbl by decide +kernel) w h, (show ∀ w ∈ u_ws RX2 TX2 4, goodWord w = true by decide +kernel) w h⟩
set_option maxRecDepth 20000 in
theorem inX3 : ∀ w ∈ u_ws RX3 TX3 2, w ∈ wsG := fun w h => List.mem_filter.mpr ⟨(show ∀ w ∈ u_ws RX3 TX3 2, w ∈ lw_tbl by decide +kernel) w h, (show ∀ w ∈ u_ws RX3 TX3 2, goodWord w = true by decide +kernel) w h⟩
set_option maxRecDepth 20000 in
theorem inX4 : ∀ w ∈ u_ws RX4 TX4 9, w ∈ wsG := fun w h => List.mem_filter.mpr ⟨(show ∀ w ∈ u_ws RX4 TX4 9, w ∈ lw_tbl by decide +kernel) w h, (show ∀ w ∈ u_ws RX4 TX4 9, goodWord w = true by decide +kernel) w h⟩
set_option maxRecDepth 20000 in
theorem inX5 : ∀ w ∈ u_ws RX5 TX5 8, w ∈ wsG := fun w h => List.mem_filter.mpr ⟨(show ∀ w ∈ u_ws RX5 TX5 8, w ∈ lw_tbl by decide +kernel) w h, (show ∀ w ∈ u_ws RX5 TX5 8, goodWord w = true by decide +kernel) w h⟩
set_option maxRecDepth 20000 in
theorem inX6 : ∀ w ∈ u_ws RX6 TX6 27, w ∈ wsG := fun w h => List.mem_filter.mpr ⟨(show ∀ w ∈ u_ws RX6 TX6 27, w ∈ lw_tbl by decide +kernel) w h, (show ∀ w ∈ u_ws RX6 TX6 27, goodWord w = true by decide +kernel) w h⟩
