abbrev Gm : Type := Launch × va_G × ClassId × ClassId
abbrev mkN (c n d : String) : MethodName := ⟨c, n, d⟩
def lw_nest : List Cond := [.methodLinkNest "FewerLamps" 9 ⟨"FewerLamps$Text", "<init>", "()V"⟩ "FewerLamps", .methodLinkNest "FewerLamps$Reader" 11 ⟨"FewerLamps$Town", "<init>", "()V"⟩ "FewerLamps", .methodLinkNest "FewerLamps" 27 ⟨"FewerLamps$Town", "<init>", "()V"⟩ "FewerLamps", .methodLinkNest "FewerLamps" 34 ⟨"FewerLamps$Present", "<init>", "()V"⟩ "FewerLamps"]
theorem lw_nest_form (w : Cond) (h : w ∈ lw_nest) : ∃ (own : String) (idx : Nat) (x : MethodName) (host : String), w = .methodLinkNest own idx x host := by
  simp only [lw_nest, List.mem_cons, List.not_mem_nil, or_false] at h
  rcases h with rfl | rfl | rfl | rfl <;> exact ⟨_, _, _, _, rfl⟩
/-- what the tables say beside the words: kinds of cells, array kinds, links to nest mates -/
def gK (D : va_G) (cI cP : ClassId) (U : State) : Prop := va_K D vwCl [(cI, .int), (cP, .object "FewerLamps$Present")] U ∧ (∀ w ∈ lw_nest, va_Nw w U) ∧ va_AO "FewerLamps$Present" U
abbrev Cx : Type := Program × Env × Room × State × MethodId × Array Value × List Frame × Method × Code × (Nat → Prop) × (State → Prop)
/-- from pc, with these locals, this stack and this world, the machine comes to Q -/
def Jw (G : Gm) (X : Cx) (nL k n pc : Nat) (lv : List (Nat × Value)) (st : List Value) (w : va_W) : Prop := match G, X with
  | (l, D, _, _), (p, e, R, s, m, args, below, meth, c, A, Q) => ∀ (H : Heap) (locs : List Loc) (ls : Array Slot), va_P D vwCl w H → va_D A w → va_S A s.heap H locs → lv_has ls nL lv → W p l e R s m args below meth c H locs k n Q (F0 m pc ls st)
def Fx (G : Gm) (X : Cx) (y : MethodName) (cc : ByteArray) (nL : Nat) (ret : Option FieldType) (rm : Room) : Prop := match G, X with
  | (_, D, cI, cP), (p, _, R, s, m, args, _, meth, c, A, _) => p.tables.exec = Jvm.exec ∧ c.code = cc ∧ c.maxLocals = nL ∧ s.vm.findClass y.cls = some m.cls ∧ (∀ w ∈ TB, w.before args s = true) ∧ meth.sig.returnType = ret ∧ meth.locks = false ∧ gK D cI cP s ∧ (∀ q, s.heap.size ≤ q → A q) ∧ R = rm ∧ meth.name = y.name
def Qg (D : va_G) (A : Nat → Prop) (post : Option Value → va_W → Prop) : Array Value → State → Outcome → State → Prop := fun _ st oc t => (∃ (r : Option Value) (w' : va_W), oc = .returned r ∧ post r w' ∧ va_P D vwCl w' t.heap ∧ va_D A w') ∧ va_F A st t
def Rx (G : Gm) (X : Cx) (post : Option Value → va_W → Prop) (mc ms : Nat) : Prop := match G, X with
  | (_, D, _, _), (_, _, _, s, _, args, below, _, _, A, Q) => Q = MQ below (Qg D A post) args s mc ms A
abbrev wsO (y : MethodName) (cc : ByteArray) (nL : Nat) (ret : Option FieldType) : List Cond := Cond.code y cc nL ret :: TB
/-- a contract: from the world w, with these arguments, the method returns; its answer and the world behind it hold 'post'; mc cells of ms slots are new -/
def Mg (G : Gm) (y : MethodName) (cc : ByteArray) (nL : Nat) (ret : Option FieldType) (rm : Room) (mc ms : Nat) (av : List Value) (w : va_W) (post : Option Value → va_W → Prop) : Prop :=
  ∀ sz : Nat, Met G.1 y (wsO y cc nL ret) rm (va_Pc av (fun U => U.heap.size = sz ∧ va_P G.2.1 vwCl w U.heap ∧ gK G.2.1 G.2.2.1 G.2.2.2 U ∧ va_D (fun _ => True) w)) (Qg G.2.1 (va_A w sz) post) mc ms (va_A w sz)
theorem gK.warm {D : va_G} {cI cP : ClassId} {s U : State} (hW : s.WarmedH U.vm) (h : gK D cI cP s) : gK D cI cP U := by
  refine ⟨va_K.moved hW.alike h.1, fun w hw => ?_, va_AO.moved hW.alike h.2.2⟩
  have h2 := h.2.1 w hw
  obtain ⟨own, idx, x, host, rfl⟩ := lw_nest_form w hw
  exact va_Nw.warmM hW h2
theorem gK.call {D : va_G} {cI cP : ClassId} {U : State} {g : JFrame} {mk : MethodId} {a : Array Value} (h : gK D cI cP U) : gK D cI cP (U.calling g mk a) := by
  refine ⟨va_K.moved (u := U) (U := U.calling g mk a) (Vm.Alike.refl U.vm) h.1, fun w hw => ?_, va_AO.moved (u := U) (U := U.calling g mk a) (Vm.Alike.refl U.vm) h.2.2⟩
  have h2 := h.2.1 w hw
  obtain ⟨own, idx, x, host, rfl⟩ := lw_nest_form w hw
  exact va_Nw.same rfl (u := U) (U := U.calling g mk a) rfl h2
theorem tb_pay {y : MethodName} {cc : ByteArray} {nL : Nat} {ret : Option FieldType} (hc : Cond.code y cc nL ret ∈ TB) : GoodIn TB (wsO y cc nL ret) := by
  intro w hw
  have h : w ∈ TB := (List.mem_cons.mp hw).elim (fun e => e ▸ hc) id
  exact ⟨h, tb_good h⟩
section JR
variable {G : Gm} {X : Cx} {y : MethodName} {cc : ByteArray} {nL k n : Nat} {ret : Option FieldType} {rm : Room} {pc q : Nat} {lv lv' : List (Nat × Value)} {st : List Value} {w w' : va_W}
theorem j_iconst (F : Fx G X y cc nL ret rm) {i : Int} {v : Int32} (hv : Int32.ofInt i = v) (d : decode cc pc = .ok (.iconst i, 1)) (hq : pc + 1 = q) (kk : Jw G X nL k n q lv (.int v :: st) w) : Jw G X nL k n pc lv (st) w := by
  obtain ⟨l, D, cI, cP⟩ := G
  obtain ⟨p, e, R, s, m, args, below, meth, c, A, Q⟩ := X
  obtain ⟨hx, hb, hml, hown, hts, hr, hlocks, hK, hA, hR, hnm⟩ := F
  subst hq
  intro H locs ls hP hD hS hl
  exact lv_iconst hx hb d hv (kk H locs ls hP hD hS hl)
theorem j_bipush (F : Fx G X y cc nL ret rm) {i : Int} {v : Int32} (hv : (Int8.ofInt i).toInt32 = v) (d : decode cc pc = .ok (.bipush i, 2)) (hq : pc + 2 = q) (kk : Jw G X nL k n q lv (.int v :: st) w) : Jw G X nL k n pc lv (st) w := by
  obtain ⟨l, D, cI, cP⟩ := G
  obtain ⟨p, e, R, s, m, args, below, meth, c, A, Q⟩ := X
  obtain ⟨hx, hb, hml, hown, hts, hr, hlocks, hK, hA, hR, hnm⟩ := F
  subst hq
  intro H locs ls hP hD hS hl
  exact lv_bipush hx hb d hv (kk H locs ls hP hD hS hl)
theorem j_sipush (F : Fx G X y cc nL ret rm) {i : Int} {v : Int32} (hv : (Int16.ofInt i).toInt32 = v) (d : decode cc pc = .ok (.sipush i, 3)) (hq : pc + 3 = q) (kk : Jw G X nL k n q lv (.int v :: st) w) : Jw G X nL k n pc lv (st) w := by
  obtain ⟨l, D, cI, cP⟩ := G
  obtain ⟨p, e, R, s, m, args, below, meth, c, A, Q⟩ := X
  obtain ⟨hx, hb, hml, hown, hts, hr, hlocks, hK, hA, hR, hnm⟩ := F
  subst hq
  intro H locs ls hP hD hS hl
  exact lv_sipush hx hb d hv (kk H locs ls hP hD hS hl)
theorem j_lconst (F : Fx G X y cc nL ret rm) {i : Fin 2} {v : Int64} (hv : Int64.ofNat (i : Nat) = v) (d : decode cc pc = .ok (.lconst i, 1)) (hq : pc + 1 = q) (kk : Jw G X nL k n q lv (.long v :: st) w) : Jw G X nL k n pc lv (st) w := by
  obtain ⟨l, D, cI, cP⟩ := G
  obtain ⟨p, e, R, s, m, args, below, meth, c, A, Q⟩ := X
  obtain ⟨hx, hb, hml, hown, hts, hr, hlocks, hK, hA, hR, hnm⟩ := F
  subst hq
  intro H locs ls hP hD hS hl
  exact lv_lconst hx hb d hv (kk H locs ls hP hD hS hl)
theorem j_ldc (F : Fx G X y cc nL ret rm) {i : Nat} {v : Int32} (hc : Cond.constant y.cls i v ∈ TB) (d : decode cc pc = .ok (.ldc i, 2)) (hq : pc + 2 = q) (kk : Jw G X nL k n q lv (.int v :: st) w) : Jw G X nL k n pc lv (st) w := by
  obtain ⟨l, D, cI, cP⟩ := G
  obtain ⟨p, e, R, s, m, args, below, meth, c, A, Q⟩ := X
  obtain ⟨hx, hb, hml, hown, hts, hr, hlocks, hK, hA, hR, hnm⟩ := F
  subst hq
  intro H locs ls hP hD hS hl
  exact lv_ldc hx hb hown (hts _ hc) d (kk H locs ls hP hD hS hl)
theorem j_ldcw (F : Fx G X y cc nL ret rm) {i : Nat} {v : Int32} (hc : Cond.constant y.cls i v ∈ TB) (d : decode cc pc = .ok (.ldc_w i, 3)) (hq : pc + 3 = q) (kk : Jw G X nL k n q lv (.int v :: st) w) : Jw G X nL k n pc lv (st) w := by
  obtain ⟨l, D, cI, cP⟩ := G
  obtain ⟨p, e, R, s, m, args, below, meth, c, A, Q⟩ := X
  obtain ⟨hx, hb, hml, hown, hts, hr, hlocks, hK, hA, hR, hnm⟩ := F
  subst hq
  intro H locs ls hP hD hS hl
  exact lv_ldcw hx hb hown (hts _ hc) d (kk H locs ls hP hD hS hl)
theorem j_ldc2 (F : Fx G X y cc nL ret rm) {i : Nat} {v : Int64} (hc : Cond.constantLong y.cls i v ∈ TB) (d : decode cc pc = .ok (.ldc2_w i, 3)) (hq : pc + 3 = q) (kk : Jw G X nL k n q lv (.long v :: st) w) : Jw G X nL k n pc lv (st) w := by
  obtain ⟨l, D, cI, cP⟩ := G
  obtain ⟨p, e, R, s, m, args, below, meth, c, A, Q⟩ := X
  obtain ⟨hx, hb, hml, hown, hts, hr, hlocks, hK, hA, hR, hnm⟩ := F
  subst hq
  intro H locs ls hP hD hS hl
  exact lv_ldc2 hx hb hown (hts _ hc) d (kk H locs ls hP hD hS hl)
theorem j_iload_n (F : Fx G X y cc nL ret rm) {i0 : Nat} {i : Fin 4} {x : Int32} (hk : lv[i0]? = some ((i : Nat), .int x)) (d : decode cc pc = .ok (.iload_n i, 1)) (hq : pc + 1 = q) (kk : Jw G X nL k n q lv (.int x :: st) w) : Jw G X nL k n pc lv (st) w := by
  obtain ⟨l, D, cI, cP⟩ := G
  obtain ⟨p, e, R, s, m, args, below, meth, c, A, Q⟩ := X
  obtain ⟨hx, hb, hml, hown, hts, hr, hlocks, hK, hA, hR, hnm⟩ := F
  subst hq
  intro H locs ls hP hD hS hl
  exact lv_iload_n hx hb d rfl (lv_at hl i0 hk) (kk H locs ls hP hD hS hl)
theorem j_iload (F : Fx G X y cc nL ret rm) {i0 i : Nat} {x : Int32} (hk : lv[i0]? = some (i, .int x)) (d : decode cc pc = .ok (.iload i, 2)) (hq : pc + 2 = q) (kk : Jw G X nL k n q lv (.int x :: st) w) : Jw G X nL k n pc lv (st) w := by
  obtain ⟨l, D, cI, cP⟩ := G
  obtain ⟨p, e, R, s, m, args, below, meth, c, A, Q⟩ := X
  obtain ⟨hx, hb, hml, hown, hts, hr, hlocks, hK, hA, hR, hnm⟩ := F
  subst hq
  intro H locs ls hP hD hS hl
  exact lv_iload hx hb d (lv_at hl i0 hk) (kk H locs ls hP hD hS hl)
theorem j_lload_n (F : Fx G X y cc nL ret rm) {i0 : Nat} {i : Fin 4} {x : Int64} (hk : lv[i0]? = some ((i : Nat), .long x)) (d : decode cc pc = .ok (.lload_n i, 1)) (hq : pc + 1 = q) (kk : Jw G X nL k n q lv (.long x :: st) w) : Jw G X nL k n pc lv (st) w := by
  obtain ⟨l, D, cI, cP⟩ := G
  obtain ⟨p, e, R, s, m, args, below, meth, c, A, Q⟩ := X
  obtain ⟨hx, hb, hml, hown, hts, hr, hlocks, hK, hA, hR, hnm⟩ := F
  subst hq
  intro H locs ls hP hD hS hl
  exact lv_lload_n hx hb d rfl (lv_at hl i0 hk) (kk H locs ls hP hD hS hl)
theorem j_lload (F : Fx G X y cc nL ret rm) {i0 i : Nat} {x : Int64} (hk : lv[i0]? = some (i, .long x)) (d : decode cc pc = .ok (.lload i, 2)) (hq : pc + 2 = q) (kk : Jw G X nL k n q lv (.long x :: st) w) : Jw G X nL k n pc lv (st) w := by
  obtain ⟨l, D, cI, cP⟩ := G
  obtain ⟨p, e, R, s, m, args, below, meth, c, A, Q⟩ := X
  obtain ⟨hx, hb, hml, hown, hts, hr, hlocks, hK, hA, hR, hnm⟩ := F
  subst hq
  intro H locs ls hP hD hS hl
  exact lv_lload hx hb d (lv_at hl i0 hk) (kk H locs ls hP hD hS hl)
theorem j_aload_n (F : Fx G X y cc nL ret rm) {i0 : Nat} {i : Fin 4} {x : Nat} (hk : lv[i0]? = some ((i : Nat), .ref x)) (d : decode cc pc = .ok (.aload_n i, 1)) (hq : pc + 1 = q) (kk : Jw G X nL k n q lv (.ref x :: st) w) : Jw G X nL k n pc lv (st) w := by
  obtain ⟨l, D, cI, cP⟩ := G
  obtain ⟨p, e, R, s, m, args, below, meth, c, A, Q⟩ := X
  obtain ⟨hx, hb, hml, hown, hts, hr, hlocks, hK, hA, hR, hnm⟩ := F
  subst hq
  intro H locs ls hP hD hS hl
  exact lv_aload_n hx hb d rfl (lv_at hl i0 hk) (kk H locs ls hP hD hS hl)
theorem j_aload (F : Fx G X y cc nL ret rm) {i0 i : Nat} {x : Nat} (hk : lv[i0]? = some (i, .ref x)) (d : decode cc pc = .ok (.aload i, 2)) (hq : pc + 2 = q) (kk : Jw G X nL k n q lv (.ref x :: st) w) : Jw G X nL k n pc lv (st) w := by
  obtain ⟨l, D, cI, cP⟩ := G
  obtain ⟨p, e, R, s, m, args, below, meth, c, A, Q⟩ := X
  obtain ⟨hx, hb, hml, hown, hts, hr, hlocks, hK, hA, hR, hnm⟩ := F
  subst hq
  intro H locs ls hP hD hS hl
  exact lv_aload hx hb d (lv_at hl i0 hk) (kk H locs ls hP hD hS hl)
theorem j_istore_n (F : Fx G X y cc nL ret rm) {i : Fin 4} {x : Int32} (d : decode cc pc = .ok (.istore_n i, 1)) (hn : (i : Nat) < nL) (hl : ((i : Nat), Value.int x) :: lv.filter (fun q => !(q.1 == (i : Nat)) && !(q.1 + 1 == (i : Nat) && q.2.category == 2)) = lv') (hq : pc + 1 = q) (kk : Jw G X nL k n q lv' st w) : Jw G X nL k n pc lv (.int x :: st) w := by
  obtain ⟨l, D, cI, cP⟩ := G
  obtain ⟨p, e, R, s, m, args, below, meth, c, A, Q⟩ := X
  obtain ⟨hx, hb, hml, hown, hts, hr, hlocks, hK, hA, hR, hnm⟩ := F
  subst hq
  intro H locs ls hP hD hS hl0
  exact lv_istore_n hx hb d rfl hl0 hn hl (fun ls hl => (kk H locs ls hP hD hS hl))
theorem j_istore (F : Fx G X y cc nL ret rm) {i : Nat} {x : Int32} (d : decode cc pc = .ok (.istore i, 2)) (hn : i < nL) (hl : (i, Value.int x) :: lv.filter (fun q => !(q.1 == i) && !(q.1 + 1 == i && q.2.category == 2)) = lv') (hq : pc + 2 = q) (kk : Jw G X nL k n q lv' st w) : Jw G X nL k n pc lv (.int x :: st) w := by
  obtain ⟨l, D, cI, cP⟩ := G
  obtain ⟨p, e, R, s, m, args, below, meth, c, A, Q⟩ := X
  obtain ⟨hx, hb, hml, hown, hts, hr, hlocks, hK, hA, hR, hnm⟩ := F
  subst hq
  intro H locs ls hP hD hS hl0
  exact lv_istore hx hb d  hl0 hn hl (fun ls hl => (kk H locs ls hP hD hS hl))
theorem j_astore_n (F : Fx G X y cc nL ret rm) {i : Fin 4} {x : Nat} (d : decode cc pc = .ok (.astore_n i, 1)) (hn : (i : Nat) < nL) (hl : ((i : Nat), Value.ref x) :: lv.filter (fun q => !(q.1 == (i : Nat)) && !(q.1 + 1 == (i : Nat) && q.2.category == 2)) = lv') (hq : pc + 1 = q) (kk : Jw G X nL k n q lv' st w) : Jw G X nL k n pc lv (.ref x :: st) w := by
  obtain ⟨l, D, cI, cP⟩ := G
  obtain ⟨p, e, R, s, m, args, below, meth, c, A, Q⟩ := X
  obtain ⟨hx, hb, hml, hown, hts, hr, hlocks, hK, hA, hR, hnm⟩ := F
  subst hq
  intro H locs ls hP hD hS hl0
  exact lv_astore_n hx hb d rfl hl0 hn hl (fun ls hl => (kk H locs ls hP hD hS hl))
theorem j_astore (F : Fx G X y cc nL ret rm) {i : Nat} {x : Nat} (d : decode cc pc = .ok (.astore i, 2)) (hn : i < nL) (hl : (i, Value.ref x) :: lv.filter (fun q => !(q.1 == i) && !(q.1 + 1 == i && q.2.category == 2)) = lv') (hq : pc + 2 = q) (kk : Jw G X nL k n q lv' st w) : Jw G X nL k n pc lv (.ref x :: st) w := by
  obtain ⟨l, D, cI, cP⟩ := G
  obtain ⟨p, e, R, s, m, args, below, meth, c, A, Q⟩ := X
  obtain ⟨hx, hb, hml, hown, hts, hr, hlocks, hK, hA, hR, hnm⟩ := F
  subst hq
  intro H locs ls hP hD hS hl0
  exact lv_astore hx hb d  hl0 hn hl (fun ls hl => (kk H locs ls hP hD hS hl))
theorem j_iinc (F : Fx G X y cc nL ret rm) {i i0 : Nat} {z : Int} {x v : Int32} (d : decode cc pc = .ok (.iinc i z, 3)) (hk : lv[i0]? = some (i, .int x)) (hv : x + Int32.ofInt z = v) (hn : i < nL) (hl : (i, Value.int v) :: lv.filter (fun q => !(q.1 == i) && !(q.1 + 1 == i && q.2.category == 2)) = lv') (hq : pc + 3 = q) (kk : Jw G X nL k n q lv' st w) : Jw G X nL k n pc lv st w := by
  obtain ⟨l, D, cI, cP⟩ := G
  obtain ⟨p, e, R, s, m, args, below, meth, c, A, Q⟩ := X
  obtain ⟨hx, hb, hml, hown, hts, hr, hlocks, hK, hA, hR, hnm⟩ := F
  subst hq
  intro H locs ls hP hD hS hl0
  exact lv_iinc hx hb d hl0 hk hv hn hl (fun ls hl => (kk H locs ls hP hD hS hl))
theorem j_iadd (F : Fx G X y cc nL ret rm) {x y' v : Int32} (hv : x + y' = v) (d : decode cc pc = .ok (.iadd, 1)) (hq : pc + 1 = q) (kk : Jw G X nL k n q lv (.int v :: st) w) : Jw G X nL k n pc lv (.int y' :: .int x :: st) w := by
  obtain ⟨l, D, cI, cP⟩ := G
  obtain ⟨p, e, R, s, m, args, below, meth, c, A, Q⟩ := X
  obtain ⟨hx, hb, hml, hown, hts, hr, hlocks, hK, hA, hR, hnm⟩ := F
  subst hq
  intro H locs ls hP hD hS hl
  exact lv_iadd hx hb d (by subst hv; exact kk H locs ls hP hD hS hl)
theorem j_isub (F : Fx G X y cc nL ret rm) {x y' v : Int32} (hv : x - y' = v) (d : decode cc pc = .ok (.isub, 1)) (hq : pc + 1 = q) (kk : Jw G X nL k n q lv (.int v :: st) w) : Jw G X nL k n pc lv (.int y' :: .int x :: st) w := by
  obtain ⟨l, D, cI, cP⟩ := G
  obtain ⟨p, e, R, s, m, args, below, meth, c, A, Q⟩ := X
  obtain ⟨hx, hb, hml, hown, hts, hr, hlocks, hK, hA, hR, hnm⟩ := F
  subst hq
  intro H locs ls hP hD hS hl
  exact lv_isub hx hb d (by subst hv; exact kk H locs ls hP hD hS hl)
theorem j_imul (F : Fx G X y cc nL ret rm) {x y' v : Int32} (hv : x * y' = v) (d : decode cc pc = .ok (.imul, 1)) (hq : pc + 1 = q) (kk : Jw G X nL k n q lv (.int v :: st) w) : Jw G X nL k n pc lv (.int y' :: .int x :: st) w := by
  obtain ⟨l, D, cI, cP⟩ := G
  obtain ⟨p, e, R, s, m, args, below, meth, c, A, Q⟩ := X
  obtain ⟨hx, hb, hml, hown, hts, hr, hlocks, hK, hA, hR, hnm⟩ := F
  subst hq
  intro H locs ls hP hD hS hl
  exact lv_imul hx hb d (by subst hv; exact kk H locs ls hP hD hS hl)
theorem j_iand (F : Fx G X y cc nL ret rm) {x y' v : Int32} (hv : x &&& y' = v) (d : decode cc pc = .ok (.iand, 1)) (hq : pc + 1 = q) (kk : Jw G X nL k n q lv (.int v :: st) w) : Jw G X nL k n pc lv (.int y' :: .int x :: st) w := by
  obtain ⟨l, D, cI, cP⟩ := G
  obtain ⟨p, e, R, s, m, args, below, meth, c, A, Q⟩ := X
  obtain ⟨hx, hb, hml, hown, hts, hr, hlocks, hK, hA, hR, hnm⟩ := F
  subst hq
  intro H locs ls hP hD hS hl
  exact lv_iand hx hb d (by subst hv; exact kk H locs ls hP hD hS hl)
theorem j_ior (F : Fx G X y cc nL ret rm) {x y' v : Int32} (hv : x ||| y' = v) (d : decode cc pc = .ok (.ior, 1)) (hq : pc + 1 = q) (kk : Jw G X nL k n q lv (.int v :: st) w) : Jw G X nL k n pc lv (.int y' :: .int x :: st) w := by
  obtain ⟨l, D, cI, cP⟩ := G
  obtain ⟨p, e, R, s, m, args, below, meth, c, A, Q⟩ := X
  obtain ⟨hx, hb, hml, hown, hts, hr, hlocks, hK, hA, hR, hnm⟩ := F
  subst hq
  intro H locs ls hP hD hS hl
  exact lv_ior hx hb d (by subst hv; exact kk H locs ls hP hD hS hl)
theorem j_ixor (F : Fx G X y cc nL ret rm) {x y' v : Int32} (hv : x ^^^ y' = v) (d : decode cc pc = .ok (.ixor, 1)) (hq : pc + 1 = q) (kk : Jw G X nL k n q lv (.int v :: st) w) : Jw G X nL k n pc lv (.int y' :: .int x :: st) w := by
  obtain ⟨l, D, cI, cP⟩ := G
  obtain ⟨p, e, R, s, m, args, below, meth, c, A, Q⟩ := X
  obtain ⟨hx, hb, hml, hown, hts, hr, hlocks, hK, hA, hR, hnm⟩ := F
  subst hq
  intro H locs ls hP hD hS hl
  exact lv_ixor hx hb d (by subst hv; exact kk H locs ls hP hD hS hl)
theorem j_ishl (F : Fx G X y cc nL ret rm) {x y' v : Int32} (hv : x <<< (y' &&& 31) = v) (d : decode cc pc = .ok (.ishl, 1)) (hq : pc + 1 = q) (kk : Jw G X nL k n q lv (.int v :: st) w) : Jw G X nL k n pc lv (.int y' :: .int x :: st) w := by
  obtain ⟨l, D, cI, cP⟩ := G
  obtain ⟨p, e, R, s, m, args, below, meth, c, A, Q⟩ := X
  obtain ⟨hx, hb, hml, hown, hts, hr, hlocks, hK, hA, hR, hnm⟩ := F
  subst hq
  intro H locs ls hP hD hS hl
  exact lv_ishl hx hb d (by subst hv; exact kk H locs ls hP hD hS hl)
theorem j_ishr (F : Fx G X y cc nL ret rm) {x y' v : Int32} (hv : x >>> (y' &&& 31) = v) (d : decode cc pc = .ok (.ishr, 1)) (hq : pc + 1 = q) (kk : Jw G X nL k n q lv (.int v :: st) w) : Jw G X nL k n pc lv (.int y' :: .int x :: st) w := by
  obtain ⟨l, D, cI, cP⟩ := G
  obtain ⟨p, e, R, s, m, args, below, meth, c, A, Q⟩ := X
  obtain ⟨hx, hb, hml, hown, hts, hr, hlocks, hK, hA, hR, hnm⟩ := F
  subst hq
  intro H locs ls hP hD hS hl
  exact lv_ishr hx hb d (by subst hv; exact kk H locs ls hP hD hS hl)
theorem j_iushr (F : Fx G X y cc nL ret rm) {x y' v : Int32} (hv : (x.toUInt32 >>> (y'.toUInt32 &&& Int32.toUInt32 31)).toInt32 = v) (d : decode cc pc = .ok (.iushr, 1)) (hq : pc + 1 = q) (kk : Jw G X nL k n q lv (.int v :: st) w) : Jw G X nL k n pc lv (.int y' :: .int x :: st) w := by
  obtain ⟨l, D, cI, cP⟩ := G
  obtain ⟨p, e, R, s, m, args, below, meth, c, A, Q⟩ := X
  obtain ⟨hx, hb, hml, hown, hts, hr, hlocks, hK, hA, hR, hnm⟩ := F
  subst hq
  intro H locs ls hP hD hS hl
  exact lv_iushr hx hb d hv (kk H locs ls hP hD hS hl)
theorem j_ladd (F : Fx G X y cc nL ret rm) {x y' v : Int64} (hv : x + y' = v) (d : decode cc pc = .ok (.ladd, 1)) (hq : pc + 1 = q) (kk : Jw G X nL k n q lv (.long v :: st) w) : Jw G X nL k n pc lv (.long y' :: .long x :: st) w := by
  obtain ⟨l, D, cI, cP⟩ := G
  obtain ⟨p, e, R, s, m, args, below, meth, c, A, Q⟩ := X
  obtain ⟨hx, hb, hml, hown, hts, hr, hlocks, hK, hA, hR, hnm⟩ := F
  subst hq
  intro H locs ls hP hD hS hl
  exact lv_ladd hx hb d (by subst hv; exact kk H locs ls hP hD hS hl)
theorem j_lcmp (F : Fx G X y cc nL ret rm) {x y' : Int64} {v : Int32} (hv : lg_cmp x y' = v) (d : decode cc pc = .ok (.lcmp, 1)) (hq : pc + 1 = q) (kk : Jw G X nL k n q lv (.int v :: st) w) : Jw G X nL k n pc lv (.long y' :: .long x :: st) w := by
  obtain ⟨l, D, cI, cP⟩ := G
  obtain ⟨p, e, R, s, m, args, below, meth, c, A, Q⟩ := X
  obtain ⟨hx, hb, hml, hown, hts, hr, hlocks, hK, hA, hR, hnm⟩ := F
  subst hq
  intro H locs ls hP hD hS hl
  exact W.lcmp hx hb d (by subst hv; exact kk H locs ls hP hD hS hl)
theorem j_i2l (F : Fx G X y cc nL ret rm) {x : Int32} {v : Int64} (hv : x.toInt64 = v) (d : decode cc pc = .ok (.i2l, 1)) (hq : pc + 1 = q) (kk : Jw G X nL k n q lv (.long v :: st) w) : Jw G X nL k n pc lv (.int x :: st) w := by
  obtain ⟨l, D, cI, cP⟩ := G
  obtain ⟨p, e, R, s, m, args, below, meth, c, A, Q⟩ := X
  obtain ⟨hx, hb, hml, hown, hts, hr, hlocks, hK, hA, hR, hnm⟩ := F
  subst hq
  intro H locs ls hP hD hS hl
  exact lv_i2l hx hb d hv (kk H locs ls hP hD hS hl)
theorem j_dup (F : Fx G X y cc nL ret rm) {va : Value} (h1 : va.category = 1) (d : decode cc pc = .ok (.dup, 1)) (hq : pc + 1 = q) (kk : Jw G X nL k n q lv (va :: va :: st) w) : Jw G X nL k n pc lv (va :: st) w := by
  obtain ⟨l, D, cI, cP⟩ := G
  obtain ⟨p, e, R, s, m, args, below, meth, c, A, Q⟩ := X
  obtain ⟨hx, hb, hml, hown, hts, hr, hlocks, hK, hA, hR, hnm⟩ := F
  subst hq
  intro H locs ls hP hD hS hl
  exact lv_dup hx hb d h1 (kk H locs ls hP hD hS hl)
theorem j_pop (F : Fx G X y cc nL ret rm) {va : Value} (h1 : va.category = 1) (d : decode cc pc = .ok (.pop, 1)) (hq : pc + 1 = q) (kk : Jw G X nL k n q lv (st) w) : Jw G X nL k n pc lv (va :: st) w := by
  obtain ⟨l, D, cI, cP⟩ := G
  obtain ⟨p, e, R, s, m, args, below, meth, c, A, Q⟩ := X
  obtain ⟨hx, hb, hml, hown, hts, hr, hlocks, hK, hA, hR, hnm⟩ := F
  subst hq
  intro H locs ls hP hD hS hl
  exact lv_pop hx hb d h1 (kk H locs ls hP hD hS hl)
theorem j_dup2 (F : Fx G X y cc nL ret rm) {va vb : Value} (h1 : va.category = 1) (h2 : vb.category = 1) (d : decode cc pc = .ok (.dup2, 1)) (hq : pc + 1 = q) (kk : Jw G X nL k n q lv (va :: vb :: va :: vb :: st) w) : Jw G X nL k n pc lv (va :: vb :: st) w := by
  obtain ⟨l, D, cI, cP⟩ := G
  obtain ⟨p, e, R, s, m, args, below, meth, c, A, Q⟩ := X
  obtain ⟨hx, hb, hml, hown, hts, hr, hlocks, hK, hA, hR, hnm⟩ := F
  subst hq
  intro H locs ls hP hD hS hl
  exact lv_dup2_11 hx hb d h1 h2 (kk H locs ls hP hD hS hl)
theorem j_icmp_eq (F : Fx G X y cc nL ret rm) {t : Nat} {x y' : Int32} {off : Int} {Pp : Prop} (hp : (x = y') ↔ Pp) (d : decode cc pc = .ok (.if_icmp .eq off, 3)) (ht : (pc : Int) + off = (t : Int)) (hq : pc + 3 = q) (kt : Pp → Jw G X nL k n t lv st w) (kf : ¬ Pp → Jw G X nL k n q lv st w) : Jw G X nL k n pc lv (.int y' :: .int x :: st) w := by
  obtain ⟨l, D, cI, cP⟩ := G
  obtain ⟨p, e, R, s, m, args, below, meth, c, A, Q⟩ := X
  obtain ⟨hx, hb, hml, hown, hts, hr, hlocks, hK, hA, hR, hnm⟩ := F
  subst hq
  intro H locs ls hP hD hS hl
  exact lv_icmp_eq hx hb d ht (fun h => kt (hp.mp h) H locs ls hP hD hS hl) (fun h => kf (fun z => h (hp.mpr z)) H locs ls hP hD hS hl)
theorem j_icmp_lt (F : Fx G X y cc nL ret rm) {t : Nat} {x y' : Int32} {off : Int} {Pp : Prop} (hp : (x < y') ↔ Pp) (d : decode cc pc = .ok (.if_icmp .lt off, 3)) (ht : (pc : Int) + off = (t : Int)) (hq : pc + 3 = q) (kt : Pp → Jw G X nL k n t lv st w) (kf : ¬ Pp → Jw G X nL k n q lv st w) : Jw G X nL k n pc lv (.int y' :: .int x :: st) w := by
  obtain ⟨l, D, cI, cP⟩ := G
  obtain ⟨p, e, R, s, m, args, below, meth, c, A, Q⟩ := X
  obtain ⟨hx, hb, hml, hown, hts, hr, hlocks, hK, hA, hR, hnm⟩ := F
  subst hq
  intro H locs ls hP hD hS hl
  exact lv_icmp_lt hx hb d ht (fun h => kt (hp.mp h) H locs ls hP hD hS hl) (fun h => kf (fun z => h (hp.mpr z)) H locs ls hP hD hS hl)
theorem j_icmp_ge (F : Fx G X y cc nL ret rm) {t : Nat} {x y' : Int32} {off : Int} {Pp : Prop} (hp : (y' ≤ x) ↔ Pp) (d : decode cc pc = .ok (.if_icmp .ge off, 3)) (ht : (pc : Int) + off = (t : Int)) (hq : pc + 3 = q) (kt : Pp → Jw G X nL k n t lv st w) (kf : ¬ Pp → Jw G X nL k n q lv st w) : Jw G X nL k n pc lv (.int y' :: .int x :: st) w := by
  obtain ⟨l, D, cI, cP⟩ := G
  obtain ⟨p, e, R, s, m, args, below, meth, c, A, Q⟩ := X
  obtain ⟨hx, hb, hml, hown, hts, hr, hlocks, hK, hA, hR, hnm⟩ := F
  subst hq
  intro H locs ls hP hD hS hl
  exact lv_icmp_ge hx hb d ht (fun h => kt (hp.mp h) H locs ls hP hD hS hl) (fun h => kf (fun z => h (hp.mpr z)) H locs ls hP hD hS hl)
theorem j_icmp_gt (F : Fx G X y cc nL ret rm) {t : Nat} {x y' : Int32} {off : Int} {Pp : Prop} (hp : (y' < x) ↔ Pp) (d : decode cc pc = .ok (.if_icmp .gt off, 3)) (ht : (pc : Int) + off = (t : Int)) (hq : pc + 3 = q) (kt : Pp → Jw G X nL k n t lv st w) (kf : ¬ Pp → Jw G X nL k n q lv st w) : Jw G X nL k n pc lv (.int y' :: .int x :: st) w := by
  obtain ⟨l, D, cI, cP⟩ := G
  obtain ⟨p, e, R, s, m, args, below, meth, c, A, Q⟩ := X
  obtain ⟨hx, hb, hml, hown, hts, hr, hlocks, hK, hA, hR, hnm⟩ := F
  subst hq
  intro H locs ls hP hD hS hl
  exact lv_icmp_gt hx hb d ht (fun h => kt (hp.mp h) H locs ls hP hD hS hl) (fun h => kf (fun z => h (hp.mpr z)) H locs ls hP hD hS hl)
theorem j_icmp_le (F : Fx G X y cc nL ret rm) {t : Nat} {x y' : Int32} {off : Int} {Pp : Prop} (hp : (x ≤ y') ↔ Pp) (d : decode cc pc = .ok (.if_icmp .le off, 3)) (ht : (pc : Int) + off = (t : Int)) (hq : pc + 3 = q) (kt : Pp → Jw G X nL k n t lv st w) (kf : ¬ Pp → Jw G X nL k n q lv st w) : Jw G X nL k n pc lv (.int y' :: .int x :: st) w := by
  obtain ⟨l, D, cI, cP⟩ := G
  obtain ⟨p, e, R, s, m, args, below, meth, c, A, Q⟩ := X
  obtain ⟨hx, hb, hml, hown, hts, hr, hlocks, hK, hA, hR, hnm⟩ := F
  subst hq
  intro H locs ls hP hD hS hl
  exact lv_icmp_le hx hb d ht (fun h => kt (hp.mp h) H locs ls hP hD hS hl) (fun h => kf (fun z => h (hp.mpr z)) H locs ls hP hD hS hl)
theorem j_if_eq (F : Fx G X y cc nL ret rm) {t : Nat} {x : Int32} {off : Int} {Pp : Prop} (hp : (x = 0) ↔ Pp) (d : decode cc pc = .ok (.ifCond .eq off, 3)) (ht : (pc : Int) + off = (t : Int)) (hq : pc + 3 = q) (kt : Pp → Jw G X nL k n t lv st w) (kf : ¬ Pp → Jw G X nL k n q lv st w) : Jw G X nL k n pc lv (.int x :: st) w := by
  obtain ⟨l, D, cI, cP⟩ := G
  obtain ⟨p, e, R, s, m, args, below, meth, c, A, Q⟩ := X
  obtain ⟨hx, hb, hml, hown, hts, hr, hlocks, hK, hA, hR, hnm⟩ := F
  subst hq
  intro H locs ls hP hD hS hl
  exact lv_if_eq hx hb d ht (fun h => kt (hp.mp h) H locs ls hP hD hS hl) (fun h => kf (fun z => h (hp.mpr z)) H locs ls hP hD hS hl)
theorem j_if_lt (F : Fx G X y cc nL ret rm) {t : Nat} {x : Int32} {off : Int} {Pp : Prop} (hp : (x < 0) ↔ Pp) (d : decode cc pc = .ok (.ifCond .lt off, 3)) (ht : (pc : Int) + off = (t : Int)) (hq : pc + 3 = q) (kt : Pp → Jw G X nL k n t lv st w) (kf : ¬ Pp → Jw G X nL k n q lv st w) : Jw G X nL k n pc lv (.int x :: st) w := by
  obtain ⟨l, D, cI, cP⟩ := G
  obtain ⟨p, e, R, s, m, args, below, meth, c, A, Q⟩ := X
  obtain ⟨hx, hb, hml, hown, hts, hr, hlocks, hK, hA, hR, hnm⟩ := F
  subst hq
  intro H locs ls hP hD hS hl
  exact lv_if_lt hx hb d ht (fun h => kt (hp.mp h) H locs ls hP hD hS hl) (fun h => kf (fun z => h (hp.mpr z)) H locs ls hP hD hS hl)
theorem j_if_ge (F : Fx G X y cc nL ret rm) {t : Nat} {x : Int32} {off : Int} {Pp : Prop} (hp : (0 ≤ x) ↔ Pp) (d : decode cc pc = .ok (.ifCond .ge off, 3)) (ht : (pc : Int) + off = (t : Int)) (hq : pc + 3 = q) (kt : Pp → Jw G X nL k n t lv st w) (kf : ¬ Pp → Jw G X nL k n q lv st w) : Jw G X nL k n pc lv (.int x :: st) w := by
  obtain ⟨l, D, cI, cP⟩ := G
  obtain ⟨p, e, R, s, m, args, below, meth, c, A, Q⟩ := X
  obtain ⟨hx, hb, hml, hown, hts, hr, hlocks, hK, hA, hR, hnm⟩ := F
  subst hq
  intro H locs ls hP hD hS hl
  exact lv_if_ge hx hb d ht (fun h => kt (hp.mp h) H locs ls hP hD hS hl) (fun h => kf (fun z => h (hp.mpr z)) H locs ls hP hD hS hl)
theorem j_if_gt (F : Fx G X y cc nL ret rm) {t : Nat} {x : Int32} {off : Int} {Pp : Prop} (hp : (0 < x) ↔ Pp) (d : decode cc pc = .ok (.ifCond .gt off, 3)) (ht : (pc : Int) + off = (t : Int)) (hq : pc + 3 = q) (kt : Pp → Jw G X nL k n t lv st w) (kf : ¬ Pp → Jw G X nL k n q lv st w) : Jw G X nL k n pc lv (.int x :: st) w := by
  obtain ⟨l, D, cI, cP⟩ := G
  obtain ⟨p, e, R, s, m, args, below, meth, c, A, Q⟩ := X
  obtain ⟨hx, hb, hml, hown, hts, hr, hlocks, hK, hA, hR, hnm⟩ := F
  subst hq
  intro H locs ls hP hD hS hl
  exact lv_if_gt hx hb d ht (fun h => kt (hp.mp h) H locs ls hP hD hS hl) (fun h => kf (fun z => h (hp.mpr z)) H locs ls hP hD hS hl)
theorem j_if_le (F : Fx G X y cc nL ret rm) {t : Nat} {x : Int32} {off : Int} {Pp : Prop} (hp : (x ≤ 0) ↔ Pp) (d : decode cc pc = .ok (.ifCond .le off, 3)) (ht : (pc : Int) + off = (t : Int)) (hq : pc + 3 = q) (kt : Pp → Jw G X nL k n t lv st w) (kf : ¬ Pp → Jw G X nL k n q lv st w) : Jw G X nL k n pc lv (.int x :: st) w := by
  obtain ⟨l, D, cI, cP⟩ := G
  obtain ⟨p, e, R, s, m, args, below, meth, c, A, Q⟩ := X
  obtain ⟨hx, hb, hml, hown, hts, hr, hlocks, hK, hA, hR, hnm⟩ := F
  subst hq
  intro H locs ls hP hD hS hl
  exact lv_if_le hx hb d ht (fun h => kt (hp.mp h) H locs ls hP hD hS hl) (fun h => kf (fun z => h (hp.mpr z)) H locs ls hP hD hS hl)
theorem j_icmp_ne (F : Fx G X y cc nL ret rm) {t : Nat} {x y' : Int32} {off : Int} {Pp : Prop} (hp : (x = y') ↔ Pp) (d : decode cc pc = .ok (.if_icmp .ne off, 3)) (ht : (pc : Int) + off = (t : Int)) (hq : pc + 3 = q) (kt : ¬ Pp → Jw G X nL k n t lv st w) (kf : Pp → Jw G X nL k n q lv st w) : Jw G X nL k n pc lv (.int y' :: .int x :: st) w := by
  obtain ⟨l, D, cI, cP⟩ := G
  obtain ⟨p, e, R, s, m, args, below, meth, c, A, Q⟩ := X
  obtain ⟨hx, hb, hml, hown, hts, hr, hlocks, hK, hA, hR, hnm⟩ := F
  subst hq
  intro H locs ls hP hD hS hl
  exact lv_icmp_ne hx hb d ht (fun h => kt (fun z => h (hp.mpr z)) H locs ls hP hD hS hl) (fun h => kf (hp.mp h) H locs ls hP hD hS hl)
theorem j_if_ne (F : Fx G X y cc nL ret rm) {t : Nat} {x : Int32} {off : Int} {Pp : Prop} (hp : (x = 0) ↔ Pp) (d : decode cc pc = .ok (.ifCond .ne off, 3)) (ht : (pc : Int) + off = (t : Int)) (hq : pc + 3 = q) (kt : ¬ Pp → Jw G X nL k n t lv st w) (kf : Pp → Jw G X nL k n q lv st w) : Jw G X nL k n pc lv (.int x :: st) w := by
  obtain ⟨l, D, cI, cP⟩ := G
  obtain ⟨p, e, R, s, m, args, below, meth, c, A, Q⟩ := X
  obtain ⟨hx, hb, hml, hown, hts, hr, hlocks, hK, hA, hR, hnm⟩ := F
  subst hq
  intro H locs ls hP hD hS hl
  exact lv_if_ne hx hb d ht (fun h => kt (fun z => h (hp.mpr z)) H locs ls hP hD hS hl) (fun h => kf (hp.mp h) H locs ls hP hD hS hl)
theorem j_goto (F : Fx G X y cc nL ret rm) {t : Nat} {off : Int} (d : decode cc pc = .ok (.goto off, 3)) (ht : (pc : Int) + off = (t : Int)) (kk : Jw G X nL k n t lv st w) : Jw G X nL k n pc lv st w := by
  obtain ⟨l, D, cI, cP⟩ := G
  obtain ⟨p, e, R, s, m, args, below, meth, c, A, Q⟩ := X
  obtain ⟨hx, hb, hml, hown, hts, hr, hlocks, hK, hA, hR, hnm⟩ := F
  intro H locs ls hP hD hS hl
  exact lv_goto hx hb d ht (kk H locs ls hP hD hS hl)
theorem j_tabIn (F : Fx G X y cc nL ret rm) {t len : Nat} {dflt lo hi off : Int} {offs : Array Int} {x : Int32} (d : decode cc pc = .ok (.tableswitch dflt lo hi offs, len)) (h1 : ¬ x.toInt < lo) (h2 : ¬ hi < x.toInt) (ho : offs[(x.toInt - lo).toNat]? = some off) (ht : (pc : Int) + off = (t : Int)) (kk : Jw G X nL k n t lv st w) : Jw G X nL k n pc lv (.int x :: st) w := by
  obtain ⟨l, D, cI, cP⟩ := G
  obtain ⟨p, e, R, s, m, args, below, meth, c, A, Q⟩ := X
  obtain ⟨hx, hb, hml, hown, hts, hr, hlocks, hK, hA, hR, hnm⟩ := F
  intro H locs ls hP hD hS hl
  exact lv_tableIn hx hb d h1 h2 ho ht (kk H locs ls hP hD hS hl)
theorem j_tabOut (F : Fx G X y cc nL ret rm) {t len : Nat} {dflt lo hi : Int} {offs : Array Int} {x : Int32} (d : decode cc pc = .ok (.tableswitch dflt lo hi offs, len)) (h : x.toInt < lo ∨ hi < x.toInt) (ht : (pc : Int) + dflt = (t : Int)) (kk : Jw G X nL k n t lv st w) : Jw G X nL k n pc lv (.int x :: st) w := by
  obtain ⟨l, D, cI, cP⟩ := G
  obtain ⟨p, e, R, s, m, args, below, meth, c, A, Q⟩ := X
  obtain ⟨hx, hb, hml, hown, hts, hr, hlocks, hK, hA, hR, hnm⟩ := F
  intro H locs ls hP hD hS hl
  exact lv_tableOut hx hb d h ht (kk H locs ls hP hD hS hl)
theorem j_look (F : Fx G X y cc nL ret rm) {t len : Nat} {dflt off : Int} {ps : Array (Int × Int)} {x : Int32} (d : decode cc pc = .ok (.lookupswitch dflt ps, len)) (hp : (ps.toList.zip (ps.toList.drop 1)).all (fun (a, next) => a.1 < next.1) = true) (ho : Op.lookupswitch.offset ps.toList dflt x.toInt = off) (ht : (pc : Int) + off = (t : Int)) (kk : Jw G X nL k n t lv st w) : Jw G X nL k n pc lv (.int x :: st) w := by
  obtain ⟨l, D, cI, cP⟩ := G
  obtain ⟨p, e, R, s, m, args, below, meth, c, A, Q⟩ := X
  obtain ⟨hx, hb, hml, hown, hts, hr, hlocks, hK, hA, hR, hnm⟩ := F
  intro H locs ls hP hD hS hl
  exact lv_lookup hx hb d hp ho ht (kk H locs ls hP hD hS hl)
theorem j_get (F : Fx G X y cc nL ret rm) {b ci q0 kf N idx : Nat} {C ref : String} {T : u_T} {fs : List Value} {v : Value} (hin : ∀ z ∈ u_ws C T N, z ∈ TB) (he : w[q0]? = some (b, .inr (ci, fs))) (hc : vwCl[ci]? = some (C, T, N)) (hk : Nat.ble (kf + 1) N = true) (hlk : Cond.fieldLink y.cls idx ref (T kf).2.1 (T kf).2.2.1 ∈ TB) (hsm : (T kf).1 = ref) (hv : fs[kf]? = some v) (d : decode cc pc = .ok (.getfield idx, 3)) (hq : pc + 3 = q) (kk : Jw G X nL k n q lv (v :: st) w) : Jw G X nL k n pc lv (.ref b :: st) w := by
  obtain ⟨l, D, cI, cP⟩ := G
  obtain ⟨p, e, R, s, m, args, below, meth, c, A, Q⟩ := X
  obtain ⟨hx, hb, hml, hown, hts, hr, hlocks, hK, hA, hR, hnm⟩ := F
  subst hq
  intro H locs ls hP hD hS hl
  subst hsm
  exact va_get hx hb hts hin hown hK.1 hP q0 he hc kf (Nat.le_of_ble_eq_true hk) (hts _ hlk) (fun _ h => h) hv d (kk H locs ls hP hD hS hl)
theorem j_put (F : Fx G X y cc nL ret rm) {b ci q0 kf N idx : Nat} {C ref : String} {T : u_T} {ty0 : Nat → FieldType} {fs : List Value} {v : Value} (hin : ∀ z ∈ u_ws C T N, z ∈ TB) (hty : ∀ k, k < N → parseFieldDescriptor (T k).2.2.1 = some (ty0 k)) (hnm2 : ∀ a, a < N → ∀ b, b < N → a ≠ b → (T a).2.1 ≠ (T b).2.1) (he : w[q0]? = some (b, .inr (ci, fs))) (hc : vwCl[ci]? = some (C, T, N)) (hk : Nat.ble (kf + 1) N = true) (hlk2 : Cond.fieldLink y.cls idx ref (T kf).2.1 (T kf).2.2.1 ∈ TB) (hsm : (T kf).1 = ref) (hfin : (T kf).2.2.2 = false)  (hn : narrow (ty0 kf) v = v) (hfit : fits (ty0 kf) v = true) (hlen : Nat.ble (kf + 1) fs.length = true) (hw : w.set q0 (b, .inr (ci, fs.set kf v)) = w') (d : decode cc pc = .ok (.putfield idx, 3)) (hq : pc + 3 = q) (kk : Jw G X nL k n q lv st w') : Jw G X nL k n pc lv (v :: .ref b :: st) w := by
  obtain ⟨l, D, cI, cP⟩ := G
  obtain ⟨p, e, R, s, m, args, below, meth, c, A, Q⟩ := X
  obtain ⟨hx, hb, hml, hown, hts, hr, hlocks, hK, hA, hR, hnm⟩ := F
  subst hq
  intro H locs ls hP hD hS hl
  subst hsm
  subst hw
  exact va_put hx hb hts hin ty0 hty hnm2 hown hK.1 hP hD hS q0 he hc kf (Nat.le_of_ble_eq_true hk) (hts _ hlk2) (fun _ h => h) hfin  (hty kf (Nat.le_of_ble_eq_true hk)) hn hfit (Nat.le_of_ble_eq_true hlen) d (fun H locs hP hD hS => (kk H locs ls hP hD hS hl))
theorem j_putF (F : Fx G X y cc nL ret rm) {b ci q0 kf N idx : Nat} {C ref : String} {T : u_T} {ty0 : Nat → FieldType} {fs : List Value} {v : Value} (hin : ∀ z ∈ u_ws C T N, z ∈ TB) (hty : ∀ k, k < N → parseFieldDescriptor (T k).2.2.1 = some (ty0 k)) (hnm2 : ∀ a, a < N → ∀ b, b < N → a ≠ b → (T a).2.1 ≠ (T b).2.1) (he : w[q0]? = some (b, .inr (ci, fs))) (hc : vwCl[ci]? = some (C, T, N)) (hk : Nat.ble (kf + 1) N = true) (hlk2 : Cond.fieldLink y.cls idx ref (T kf).2.1 (T kf).2.2.1 ∈ TB) (hsm : (T kf).1 = ref) (hfin : (T kf).2.2.2 = true) (hin2 : y.name = "<init>") (hdc : (T kf).1 = y.cls) (hn : narrow (ty0 kf) v = v) (hfit : fits (ty0 kf) v = true) (hlen : Nat.ble (kf + 1) fs.length = true) (hw : w.set q0 (b, .inr (ci, fs.set kf v)) = w') (d : decode cc pc = .ok (.putfield idx, 3)) (hq : pc + 3 = q) (kk : Jw G X nL k n q lv st w') : Jw G X nL k n pc lv (v :: .ref b :: st) w := by
  obtain ⟨l, D, cI, cP⟩ := G
  obtain ⟨p, e, R, s, m, args, below, meth, c, A, Q⟩ := X
  obtain ⟨hx, hb, hml, hown, hts, hr, hlocks, hK, hA, hR, hnm⟩ := F
  subst hq
  intro H locs ls hP hD hS hl
  subst hsm
  subst hw
  exact va_putF hx hb hts hin ty0 hty hnm2 hown hK.1 hP hD hS q0 he hc kf (Nat.le_of_ble_eq_true hk) (hts _ hlk2) (fun _ h => h) hfin (hnm.trans hin2) hdc (hty kf (Nat.le_of_ble_eq_true hk)) hn hfit (Nat.le_of_ble_eq_true hlen) d (fun H locs hP hD hS => (kk H locs ls hP hD hS hl))
theorem j_iald (F : Fx G X y cc nL ret rm) {b q0 N i : Nat} {f : Nat → Int32} {x v : Int32} (he : w[q0]? = some (b, .inl (G.2.2.1, N, .inl f))) (hi : x = nI i) (hiN : i < N) (hN : Nat.ble N 1000 = true) (hv : f i = v) (d : decode cc pc = .ok (.iaload, 1)) (hq : pc + 1 = q) (kk : Jw G X nL k n q lv (.int v :: st) w) : Jw G X nL k n pc lv (.int x :: .ref b :: st) w := by
  obtain ⟨l, D, cI, cP⟩ := G
  obtain ⟨p, e, R, s, m, args, below, meth, c, A, Q⟩ := X
  obtain ⟨hx, hb, hml, hown, hts, hr, hlocks, hK, hA, hR, hnm⟩ := F
  subst hq
  intro H locs ls hP hD hS hl
  subst hv
  have hb2 : N < 2 ^ 31 := Nat.lt_of_le_of_lt (Nat.le_of_ble_eq_true hN) (by decide)
  refine va_iald hx hb hK.1 hP q0 0 he rfl (by rw [hi]; exact vp_in_nI hiN hb2) d ?_
  rw [hi, nI_clamp (Nat.lt_trans hiN hb2)]
  exact (kk H locs ls hP hD hS hl)
theorem j_iast (F : Fx G X y cc nL ret rm) {b q0 N i : Nat} {f f2 : Nat → Int32} {x v : Int32} (he : w[q0]? = some (b, .inl (G.2.2.1, N, .inl f))) (hi : x = nI i) (hiN : i < N) (hN : Nat.ble N 1000 = true) (hf : upd f i v = f2) (hw : w.set q0 (b, .inl (G.2.2.1, N, .inl f2)) = w') (d : decode cc pc = .ok (.iastore, 1)) (hq : pc + 1 = q) (kk : Jw G X nL k n q lv st w') : Jw G X nL k n pc lv (.int v :: .int x :: .ref b :: st) w := by
  obtain ⟨l, D, cI, cP⟩ := G
  obtain ⟨p, e, R, s, m, args, below, meth, c, A, Q⟩ := X
  obtain ⟨hx, hb, hml, hown, hts, hr, hlocks, hK, hA, hR, hnm⟩ := F
  subst hq
  intro H locs ls hP hD hS hl
  subst hf
  subst hw
  have hb2 : N < 2 ^ 31 := Nat.lt_of_le_of_lt (Nat.le_of_ble_eq_true hN) (by decide)
  refine va_iast hx hb hK.1 hP hD hS q0 0 he rfl (by rw [hi]; exact vp_in_nI hiN hb2) d (fun H locs hP hD hS => ?_)
  rw [hi, nI_clamp (Nat.lt_trans hiN hb2)] at hP hD
  exact (kk H locs ls hP hD hS hl)
theorem j_alen (F : Fx G X y cc nL ret rm) {b q0 N : Nat} {f : Nat → Int32} (he : w[q0]? = some (b, .inl (G.2.2.1, N, .inl f))) (d : decode cc pc = .ok (.arraylength, 1)) (hq : pc + 1 = q) (kk : Jw G X nL k n q lv (.int (nI N) :: st) w) : Jw G X nL k n pc lv (.ref b :: st) w := by
  obtain ⟨l, D, cI, cP⟩ := G
  obtain ⟨p, e, R, s, m, args, below, meth, c, A, Q⟩ := X
  obtain ⟨hx, hb, hml, hown, hts, hr, hlocks, hK, hA, hR, hnm⟩ := F
  subst hq
  intro H locs ls hP hD hS hl
  exact va_alen hx hb hK.1 hP q0 0 he rfl rfl d (kk H locs ls hP hD hS hl)
theorem j_aald (F : Fx G X y cc nL ret rm) {b q0 N i r : Nat} {f : Nat → Option Nat} {x : Int32} (he : w[q0]? = some (b, .inl (G.2.2.2, N, .inr (.inr (.inr (.inr f)))))) (hi : x = nI i) (hiN : i < N) (hN : Nat.ble N 1000 = true) (hv : f i = some r) (d : decode cc pc = .ok (.aaload, 1)) (hq : pc + 1 = q) (kk : Jw G X nL k n q lv (.ref r :: st) w) : Jw G X nL k n pc lv (.int x :: .ref b :: st) w := by
  obtain ⟨l, D, cI, cP⟩ := G
  obtain ⟨p, e, R, s, m, args, below, meth, c, A, Q⟩ := X
  obtain ⟨hx, hb, hml, hown, hts, hr, hlocks, hK, hA, hR, hnm⟩ := F
  subst hq
  intro H locs ls hP hD hS hl
  have hb2 : N < 2 ^ 31 := Nat.lt_of_le_of_lt (Nat.le_of_ble_eq_true hN) (by decide)
  refine va_aldq hx hb hK.1 hP q0 1 he rfl (by rw [hi]; exact vp_in_nI hiN hb2) d ?_
  rw [hi, nI_clamp (Nat.lt_trans hiN hb2), hv]
  exact (kk H locs ls hP hD hS hl)
theorem j_copy (F : Fx G X y cc nL ret rm) {b b0 q0 q1 N0 N1 sp dp c0 idx : Nat} {f g g2 : Nat → Int32} {sx dx cx : Int32} (he0 : w[q0]? = some (b0, .inl (G.2.2.1, N0, .inl f))) (he1 : w[q1]? = some (b, .inl (G.2.2.1, N1, .inl g))) (hsx : sx = nI sp) (hdx : dx = nI dp) (hcx : cx = nI c0) (h4 : Nat.ble (sp + c0) N0 = true) (h5 : Nat.ble (dp + c0) N1 = true) (hN0 : Nat.ble N0 1000 = true) (hN1 : Nat.ble N1 1000 = true) (hlk : Cond.methodLink y.cls idx arraycopyName ∈ TB) (hnat : Cond.native arraycopyName ∈ TB) (hstt : Cond.static arraycopyName ∈ TB) (hini : Cond.initialized "java/lang/System" ∈ TB) (hfr : 1 ≤ rm.frames) (hlo : (st.map fun v => v.category).sum + (nativeFrameWords "java/lang/System" "arraycopy" 5 + 11) ≤ rm.locals) (hg : va_cpy f g sp dp c0 = g2) (hw : w.set q1 (b, .inl (G.2.2.1, N1, .inl g2)) = w') (d : decode cc pc = .ok (.invokestatic idx, 3)) (hq : pc + 3 = q) (kk : Jw G X nL k n q lv st w') : Jw G X nL k n pc lv (.int cx :: .int dx :: .ref b :: .int sx :: .ref b0 :: st) w := by
  obtain ⟨l, D, cI, cP⟩ := G
  obtain ⟨p, e, R, s, m, args, below, meth, c, A, Q⟩ := X
  obtain ⟨hx, hb, hml, hown, hts, hr, hlocks, hK, hA, hR, hnm⟩ := F
  subst hq
  intro H locs ls hP hD hS hl
  subst hg
  subst hw
  subst hR
  subst hsx
  subst hdx
  subst hcx
  have g0 := Nat.le_of_ble_eq_true h4
  have g1 := Nat.le_of_ble_eq_true h5
  have g2 := Nat.le_of_ble_eq_true hN0
  have g3 := Nat.le_of_ble_eq_true hN1
  have k1 : sp < 2 ^ 31 := by omega
  have k2 : dp < 2 ^ 31 := by omega
  have k3 : c0 < 2 ^ 31 := by omega
  refine va_copyi hx hb (by rw [hml]; exact hl.1.symm) hown (hts _ hlk) (hts _ hnat) (hts _ hstt) (hts _ hini) hK.1 hP hD hS q0 q1 0 0 he0 he1 rfl rfl rfl (nI_pos k1) (nI_pos k2) (nI_pos k3) (by rw [nI_clamp k1, nI_clamp k3]; exact g0) (by rw [nI_clamp k2, nI_clamp k3]; exact g1) (fun _ _ => rfl) hfr hlo d (fun H locs hP hD hS => ?_)
  rw [nI_clamp k1, nI_clamp k2, nI_clamp k3] at hP hD
  exact (kk H locs ls hP hD hS hl)
theorem j_mmin (F : Fx G X y cc nL ret rm) {idx : Nat} {x y' v : Int32} (hlk : Cond.methodLink y.cls idx Lib.Math.min.name ∈ TB) (hstt : Cond.static Lib.Math.min.name ∈ TB) (hini : Cond.initialized "java/lang/Math" ∈ TB) (hco : Cond.code Lib.Math.min.name Lib.Math.min.code 2 (some .int) ∈ TB) (hfr : 1 ≤ rm.frames) (hlo : (st.map fun v => v.category).sum + 13 ≤ rm.locals) (hce : k ≤ rm.cells ∧ n ≤ rm.slots) (hv : (if y' < x then y' else x) = v) (d : decode cc pc = .ok (.invokestatic idx, 3)) (hq : pc + 3 = q) (kk : Jw G X nL k n q lv (.int v :: st) w) : Jw G X nL k n pc lv (.int y' :: .int x :: st) w := by
  obtain ⟨l, D, cI, cP⟩ := G
  obtain ⟨p, e, R, s, m, args, below, meth, c, A, Q⟩ := X
  obtain ⟨hx, hb, hml, hown, hts, hr, hlocks, hK, hA, hR, hnm⟩ := F
  subst hq
  intro H locs ls hP hD hS hl
  subst hv
  subst hR
  exact va_mmin hx hb (by rw [hml]; exact hl.1.symm) hown (hts _ hlk) (hts _ hstt) (hts _ hini) (hts _ hco) hfr hlo hce.1 hce.2 d (kk H locs ls hP hD hS hl)
theorem j_mmax (F : Fx G X y cc nL ret rm) {idx : Nat} {x y' v : Int32} (hlk : Cond.methodLink y.cls idx Lib.Math.max.name ∈ TB) (hstt : Cond.static Lib.Math.max.name ∈ TB) (hini : Cond.initialized "java/lang/Math" ∈ TB) (hco : Cond.code Lib.Math.max.name Lib.Math.max.code 2 (some .int) ∈ TB) (hfr : 1 ≤ rm.frames) (hlo : (st.map fun v => v.category).sum + 13 ≤ rm.locals) (hce : k ≤ rm.cells ∧ n ≤ rm.slots) (hv : (if x < y' then y' else x) = v) (d : decode cc pc = .ok (.invokestatic idx, 3)) (hq : pc + 3 = q) (kk : Jw G X nL k n q lv (.int v :: st) w) : Jw G X nL k n pc lv (.int y' :: .int x :: st) w := by
  obtain ⟨l, D, cI, cP⟩ := G
  obtain ⟨p, e, R, s, m, args, below, meth, c, A, Q⟩ := X
  obtain ⟨hx, hb, hml, hown, hts, hr, hlocks, hK, hA, hR, hnm⟩ := F
  subst hq
  intro H locs ls hP hD hS hl
  subst hv
  subst hR
  exact va_mmax hx hb (by rw [hml]; exact hl.1.symm) hown (hts _ hlk) (hts _ hstt) (hts _ hini) (hts _ hco) hfr hlo hce.1 hce.2 d (kk H locs ls hP hD hS hl)
theorem j_lv (is : List Nat) (h : lv_pick lv is = lv') (kk : Jw G X nL k n pc lv' st w) : Jw G X nL k n pc lv st w := by
  obtain ⟨l, D, cI, cP⟩ := G
  obtain ⟨p, e, R, s, m, args, below, meth, c, A, Q⟩ := X
  intro H locs ls hP hD hS hl
  exact kk H locs ls hP hD hS (lv_sub hl is h)
theorem j_w (is : List Nat) (hn : va_nd is = true) (h : is.map (fun i => w[i]?) = w'.map some) (kk : Jw G X nL k n pc lv st w') : Jw G X nL k n pc lv st w := by
  obtain ⟨l, D, cI, cP⟩ := G
  obtain ⟨p, e, R, s, m, args, below, meth, c, A, Q⟩ := X
  intro H locs ls hP hD hS hl
  refine kk H locs ls (hP.sub is ?_) (hD.sub is hn h) hS hl
  have e1 : is.filterMap (fun i => w[i]?) = (is.map (fun i => w[i]?)).filterMap id := by rw [List.filterMap_map]; rfl
  rw [e1, h, List.filterMap_map]
  simp
theorem j_wide {k2 n2 : Nat} (h1 : k ≤ k2) (h2 : n ≤ n2) (kk : Jw G X nL k2 n2 pc lv st w) : Jw G X nL k n pc lv st w := by
  obtain ⟨l, D, cI, cP⟩ := G
  obtain ⟨p, e, R, s, m, args, below, meth, c, A, Q⟩ := X
  intro H locs ls hP hD hS hl
  exact W.widen h1 h2 (kk H locs ls hP hD hS hl)
theorem j_iret (F : Fx G X y cc nL ret rm) {post : Option Value → va_W → Prop} (Rr : Rx G X post k n) {v : Int32} (hret : ret = some .int) (is : List Nat) {w2 : va_W} (hn : va_nd is = true) (h : is.map (fun i => w[i]?) = w2.map some) (hp : post (some (.int v)) w2) (d : decode cc pc = .ok (.ireturn, 1)) : Jw G X nL k n pc lv ([.int v]) w := by
  obtain ⟨l, D, cI, cP⟩ := G
  obtain ⟨p, e, R, s, m, args, below, meth, c, A, Q⟩ := X
  obtain ⟨hx, hb, hml, hown, hts, hr, hlocks, hK, hA, hR, hnm⟩ := F
  have hQ : Q = MQ below (Qg D A post) args s k n A := Rr
  subst hQ
  intro H locs ls hP hD hS hl
  have hP9 : va_P D vwCl w2 H := by
    refine hP.sub is ?_
    have e1 : is.filterMap (fun i => w[i]?) = (is.map (fun i => w[i]?)).filterMap id := by rw [List.filterMap_map]; rfl
    rw [e1, h, List.filterMap_map]
    simp
  have hD9 := hD.sub is hn h
  exact W.iret hx hb (hr.trans hret)  (fun t ht hW => ⟨⟨_, w2, rfl, hp, by rw [ht]; exact hP9, hD9⟩, hS.F ht⟩) hS.2.2 d hlocks
theorem j_zret (F : Fx G X y cc nL ret rm) {post : Option Value → va_W → Prop} (Rr : Rx G X post k n) {v : Int32} (hz : narrow .boolean (.int v) = .int v) (hret : ret = some .boolean) (is : List Nat) {w2 : va_W} (hn : va_nd is = true) (h : is.map (fun i => w[i]?) = w2.map some) (hp : post (some (.int v)) w2) (d : decode cc pc = .ok (.ireturn, 1)) : Jw G X nL k n pc lv ([.int v]) w := by
  obtain ⟨l, D, cI, cP⟩ := G
  obtain ⟨p, e, R, s, m, args, below, meth, c, A, Q⟩ := X
  obtain ⟨hx, hb, hml, hown, hts, hr, hlocks, hK, hA, hR, hnm⟩ := F
  have hQ : Q = MQ below (Qg D A post) args s k n A := Rr
  subst hQ
  intro H locs ls hP hD hS hl
  have hP9 : va_P D vwCl w2 H := by
    refine hP.sub is ?_
    have e1 : is.filterMap (fun i => w[i]?) = (is.map (fun i => w[i]?)).filterMap id := by rw [List.filterMap_map]; rfl
    rw [e1, h, List.filterMap_map]
    simp
  have hD9 := hD.sub is hn h
  exact W.zret hx hb (hr.trans hret) hz (fun t ht hW => ⟨⟨_, w2, rfl, hp, by rw [ht]; exact hP9, hD9⟩, hS.F ht⟩) hS.2.2 d hlocks
theorem j_lret (F : Fx G X y cc nL ret rm) {post : Option Value → va_W → Prop} (Rr : Rx G X post k n) {v : Int64} (hret : ret = some .long) (is : List Nat) {w2 : va_W} (hn : va_nd is = true) (h : is.map (fun i => w[i]?) = w2.map some) (hp : post (some (.long v)) w2) (d : decode cc pc = .ok (.lreturn, 1)) : Jw G X nL k n pc lv ([.long v]) w := by
  obtain ⟨l, D, cI, cP⟩ := G
  obtain ⟨p, e, R, s, m, args, below, meth, c, A, Q⟩ := X
  obtain ⟨hx, hb, hml, hown, hts, hr, hlocks, hK, hA, hR, hnm⟩ := F
  have hQ : Q = MQ below (Qg D A post) args s k n A := Rr
  subst hQ
  intro H locs ls hP hD hS hl
  have hP9 : va_P D vwCl w2 H := by
    refine hP.sub is ?_
    have e1 : is.filterMap (fun i => w[i]?) = (is.map (fun i => w[i]?)).filterMap id := by rw [List.filterMap_map]; rfl
    rw [e1, h, List.filterMap_map]
    simp
  have hD9 := hD.sub is hn h
  exact W.lret hx hb (hr.trans hret)  (fun t ht hW => ⟨⟨_, w2, rfl, hp, by rw [ht]; exact hP9, hD9⟩, hS.F ht⟩) hS.2.2 d hlocks
theorem j_vret (F : Fx G X y cc nL ret rm) {post : Option Value → va_W → Prop} (Rr : Rx G X post k n)  (hret : ret = none) (is : List Nat) {w2 : va_W} (hn : va_nd is = true) (h : is.map (fun i => w[i]?) = w2.map some) (hp : post (none) w2) (d : decode cc pc = .ok (.return_, 1)) : Jw G X nL k n pc lv ([]) w := by
  obtain ⟨l, D, cI, cP⟩ := G
  obtain ⟨p, e, R, s, m, args, below, meth, c, A, Q⟩ := X
  obtain ⟨hx, hb, hml, hown, hts, hr, hlocks, hK, hA, hR, hnm⟩ := F
  have hQ : Q = MQ below (Qg D A post) args s k n A := Rr
  subst hQ
  intro H locs ls hP hD hS hl
  have hP9 : va_P D vwCl w2 H := by
    refine hP.sub is ?_
    have e1 : is.filterMap (fun i => w[i]?) = (is.map (fun i => w[i]?)).filterMap id := by rw [List.filterMap_map]; rfl
    rw [e1, h, List.filterMap_map]
    simp
  have hD9 := hD.sub is hn h
  exact W.vret hx hb (hr.trans hret)  (fun t ht hW => ⟨⟨_, w2, rfl, hp, by rw [ht]; exact hP9, hD9⟩, hS.F ht⟩) hS.2.2 d hlocks
theorem j_aret (F : Fx G X y cc nL ret rm) {post : Option Value → va_W → Prop} (Rr : Rx G X post k n) {v : Nat} {rt : FieldType} (hrt : (∃ n, rt = .object n) ∨ ∃ t, rt = .array t) (hret : ret = some rt) (is : List Nat) {w2 : va_W} (hn : va_nd is = true) (h : is.map (fun i => w[i]?) = w2.map some) (hp : post (some (.ref v)) w2) (d : decode cc pc = .ok (.areturn, 1)) : Jw G X nL k n pc lv ([.ref v]) w := by
  obtain ⟨l, D, cI, cP⟩ := G
  obtain ⟨p, e, R, s, m, args, below, meth, c, A, Q⟩ := X
  obtain ⟨hx, hb, hml, hown, hts, hr, hlocks, hK, hA, hR, hnm⟩ := F
  have hQ : Q = MQ below (Qg D A post) args s k n A := Rr
  subst hQ
  intro H locs ls hP hD hS hl
  have hP9 : va_P D vwCl w2 H := by
    refine hP.sub is ?_
    have e1 : is.filterMap (fun i => w[i]?) = (is.map (fun i => w[i]?)).filterMap id := by rw [List.filterMap_map]; rfl
    rw [e1, h, List.filterMap_map]
    simp
  have hD9 := hD.sub is hn h
  exact W.aret hx hb (hr.trans hret) hrt (Or.inr ⟨v, rfl⟩) (fun t ht hW => ⟨⟨_, w2, rfl, hp, by rw [ht]; exact hP9, hD9⟩, hS.F ht⟩) hS.2.2 d hlocks
theorem Mg.mk {mc ms : Nat} {av : List Value} {post : Option Value → va_W → Prop} (hy : plainName y.cls = true) (hav : Nat.ble (lg_sl av).length nL = true) (hlv : lv_args 0 av = lv) (body : ∀ X : Cx, Fx G X y cc nL ret rm → Rx G X post mc ms → Jw G X nL 0 0 0 lv [] w) : Mg G y cc nL ret rm mc ms av w post := by
  intro sz
  obtain ⟨l, D, cI, cP⟩ := G
  refine Met.ofW (cc := cc) (maxL := nL) (ret := ret) hy rfl ?_
  intro p e s m args below meth c s₁ B hml hv
  obtain ⟨rfl, hsz, hP, hK, hD0⟩ := hv
  have hts := atoms_spec (ws := wsO y cc nL ret) B.pre
  have hown : s.vm.findClass y.cls = some m.cls := findClass_of_methodNamed B.named
  subst hsz
  have hD := hD0.self (sz := s.heap.size)
  have hl := lv_entry av (n := nL) (Nat.le_of_ble_eq_true hav)
  rw [lg_entry_eq]
  rw [hlv] at hl
  exact body (p, e, rm, s, m, av.toArray, below, meth, c, va_A w s.heap.size, _) ⟨B.exec, B.bytes, hml, hown, fun z hz => hts z (List.mem_cons_of_mem _ hz), B.returns, B.notSynchronized, hK, fun q h => Or.inr h, rfl, (name_of_methodNamed B.named B.method).1⟩ rfl s.heap [] _ hP hD va_S.rf hl
theorem gB {D : va_G} {cI cP : ClassId} {sz : Nat} {av : List Value} {w : va_W} : FrameBlind (va_Pc av (fun U => U.heap.size = sz ∧ va_P D vwCl w U.heap ∧ gK D cI cP U ∧ va_D (fun _ => True) w)) := fun _ _ _ _ h => ⟨h.1, h.2.1, h.2.2.1, h.2.2.2.1.call, h.2.2.2.2⟩
/-- what a call of y' needs of the tables, but for its link -/
def Kw (y' : MethodName) (cc' : ByteArray) (nL' : Nat) (ret' : Option FieldType) (na : Nat) : Prop := Cond.code y' cc' nL' ret' ∈ TB ∧ Cond.initialized y'.cls ∈ TB ∧ y'.cls ≠ "java/lang/invoke/MethodHandle" ∧ y'.cls ≠ "java/lang/invoke/VarHandle" ∧ (parseMethodDescriptor y'.desc).map (fun d => d.parameters.length) = some na
theorem wSub {w w2 : va_W} {D : va_G} {H : Heap} {is : List Nat} (hP : va_P D vwCl w H) (h : is.map (fun i => w[i]?) = w2.map some) : va_P D vwCl w2 H := by
  refine hP.sub is ?_
  have e1 : is.filterMap (fun i => w[i]?) = (is.map (fun i => w[i]?)).filterMap id := by rw [List.filterMap_map]; rfl
  rw [e1, h, List.filterMap_map]
  simp
theorem j_run {mc ms : Nat} {post : Option Value → va_W → Prop} {wc wr : va_W} {st0 : List Value} {l : Launch} {D : va_G} {p : Program} {e : Env} {R : Room} {s : State} {m : MethodId} {args : Array Value} {below : List Frame} {meth : Method} {c : Code} {A : Nat → Prop} {Q : State → Prop} {H : Heap} {locs : List Loc} {ls : Array Slot} {av : Array Value} (hr : va_Run p l e R s m args below meth c H locs k n mc ms (F0 m pc ls st0) st (Qg D (va_A wc H.size) post av) (va_A wc H.size)) (hP : va_P D vwCl w H) (hD : va_D A w) (hS : va_S A s.heap H locs) (hA : ∀ q, s.heap.size ≤ q → A q) (isC isR : List Nat) (hC : isC.map (fun i => w[i]?) = wc.map some) (hRr : isR.map (fun i => w[i]?) = wr.map some) (hn : va_nd isR = true) (hdis : (isR.all fun i => !(isC.contains i)) = true)
    (kk : ∀ (r : Option Value) (w2 : va_W) (H1 : Heap) (locs1 : List Loc), post r w2 → va_P D vwCl (wr ++ w2) H1 → va_D A (wr ++ w2) → va_S A s.heap H1 locs1 → W p l e R s m args below meth c H1 locs1 (k + mc) (n + ms) Q (F0 m (pc + 3) ls (r.toList ++ st))) : W p l e R s m args below meth c H locs k n Q (F0 m pc ls st0) := by
  have hF := va_free (wc := wc) hD hS hA isC hC
  have hdis2 : ∀ i ∈ isR, i ∉ isC := by
    intro i hi hc
    have h1 := List.all_eq_true.mp hdis i hi
    simp [hc] at h1
  intro T hT X
  obtain ⟨v, st₀, t, T', L, h0, X', hL, e1, e2, ⟨⟨r, w2, hv, hp, hP2, hD2⟩, hz, hk⟩, st⟩ := hr T hT X
  cases hv
  rw [h0] at hz hk
  obtain ⟨j1, j2⟩ := va_join hP hD isC isR hC hRr hn hdis2 (H1 := T'.heap) (fun q h1 h2 => by rw [e1]; exact hk q h1 h2) hF (by rw [e1]; exact hP2) hD2
  obtain ⟨t2, a1, b1⟩ := kk v w2 T'.heap (locs ++ L) hp j1 j2 ⟨Nat.le_trans hS.1 (by rw [e1]; exact hz), fun q h1 h2 => by rw [e1, hk q (Nat.lt_of_lt_of_le h1 hS.1) (fun z => h2 (hF q z))]; exact hS.2.1 q h1 h2, fun q hq => by
      rcases List.mem_append.mp hq with h | h
      · exact hS.2.2 q h
      · exact hF _ (hL q h)⟩ T' rfl X'
  exact ⟨t2, st t2 a1, b1⟩
theorem j_callV (F : Fx G X y cc nL ret rm) {y' : MethodName} {cc' : ByteArray} {nL' na idx mc ms : Nat} {ret' : Option FieldType} {rm' : Room} {post : Option Value → va_W → Prop} {wc wr : va_W} {st0 As : List Value} {b q0 ci N : Nat} {T : u_T} {fs : List Value} (hM : Mg G y' cc' nL' ret' rm' mc ms (.ref b :: As) wc post) (K : Kw y' cc' nL' ret' na) (hin : Cond.instanceMethod y' ∈ TB) (hsel : Cond.selects y'.cls y' y' ∈ TB) (hlk1 : Cond.methodLink y.cls idx y' ∈ TB) (hrm : rm'.frames + 1 ≤ rm.frames ∧ 8 + (nL' + 11) + rm'.locals ≤ rm.locals ∧ rm'.cells = mc ∧ rm'.slots = ms ∧ k + mc ≤ rm.cells ∧ n + ms ≤ rm.slots) (isC isR : List Nat) (hnC : va_nd isC = true) (hC : isC.map (fun i => w[i]?) = wc.map some) (hRr : isR.map (fun i => w[i]?) = wr.map some) (hn : va_nd isR = true) (hdis : (isR.all fun i => !(isC.contains i)) = true) (hcl : vwCl[ci]? = some (y'.cls, T, N)) (hrc : wc[q0]? = some (b, .inr (ci, fs))) (hs0 : st0 = As.reverse ++ .ref b :: st) (hna : As.length = na) (hst : (st.map fun v => v.category).sum ≤ 8) (d : decode cc pc = .ok (.invokevirtual idx, 3)) (hq : pc + 3 = q) (kk : ∀ (r : Option Value) (w2 : va_W), post r w2 → Jw G X nL (k + mc) (n + ms) q lv (r.toList ++ st) (wr ++ w2)) : Jw G X nL k n pc lv st0 w := by
  obtain ⟨l, D, cI, cP⟩ := G
  obtain ⟨p, e, R, s, m, args, below, meth, c, A, Q⟩ := X
  obtain ⟨hx, hb, hml, hown, hts, hr, hlocks, hK, hA, hR, hnm⟩ := F
  obtain ⟨hcode, hini, hd1, hd2, hd3⟩ := K
  obtain ⟨r1, r2, r3, r4, r5, r6⟩ := hrm
  subst hq
  subst hR
  subst hs0
  intro H locs ls hP hD hS hl
  have hPc := wSub hP hC
  have hDc : va_D (fun _ => True) wc := ⟨fun i j p q h1 h2 h3 => (hD.sub isC hnC hC).1 i j p q h1 h2 h3, fun _ _ _ => trivial⟩
  have cb := callB_of (R := R) (s := s) (args := args) (own := y.cls) (index := idx) (y := y') (bytes := cc') (maxL := nL') (ret := ret') (rm := rm') (mc := mc) (ms := ms) (ws := wsO y' cc' nL' ret') na hts (tb_pay hcode) rfl r3 r4 (hts _ hini) (hts _ hlk1) ⟨hd1, hd2, hd3⟩ ⟨r1, r2⟩
  refine j_run (va_runV (As := As) (rest := st) (C := y'.cls) ⟨hx, hb, hml, hown, hts⟩ (hM H.size) ⟨cb, hts _ hin, hts _ hsel⟩ ⟨gB, va_recv hK.1 hPc hcl hrc, fun U hU hW => ⟨rfl, by rw [hU], by rw [hU]; exact hPc, gK.warm hW hK, hDc⟩⟩ rfl hna hl.1 rfl (lv_room hst) d ⟨r5, r6⟩) hP hD hS hA isC isR hC hRr hn hdis (fun r w2 H1 locs1 hp hP hD hS => kk r w2 hp H1 locs1 ls hP hD hS hl)
theorem j_callS (F : Fx G X y cc nL ret rm) {y' : MethodName} {cc' : ByteArray} {nL' na idx mc ms : Nat} {ret' : Option FieldType} {rm' : Room} {post : Option Value → va_W → Prop} {wc wr : va_W} {st0 As : List Value} (hM : Mg G y' cc' nL' ret' rm' mc ms As wc post) (K : Kw y' cc' nL' ret' na) (hsta : Cond.static y' ∈ TB) (hlk1 : Cond.methodLink y.cls idx y' ∈ TB) (hrm : rm'.frames + 1 ≤ rm.frames ∧ 8 + (nL' + 11) + rm'.locals ≤ rm.locals ∧ rm'.cells = mc ∧ rm'.slots = ms ∧ k + mc ≤ rm.cells ∧ n + ms ≤ rm.slots) (isC isR : List Nat) (hnC : va_nd isC = true) (hC : isC.map (fun i => w[i]?) = wc.map some) (hRr : isR.map (fun i => w[i]?) = wr.map some) (hn : va_nd isR = true) (hdis : (isR.all fun i => !(isC.contains i)) = true) (hs0 : st0 = As.reverse ++ st) (hna : As.length = na) (hst : (st.map fun v => v.category).sum ≤ 8) (d : decode cc pc = .ok (.invokestatic idx, 3)) (hq : pc + 3 = q) (kk : ∀ (r : Option Value) (w2 : va_W), post r w2 → Jw G X nL (k + mc) (n + ms) q lv (r.toList ++ st) (wr ++ w2)) : Jw G X nL k n pc lv st0 w := by
  obtain ⟨l, D, cI, cP⟩ := G
  obtain ⟨p, e, R, s, m, args, below, meth, c, A, Q⟩ := X
  obtain ⟨hx, hb, hml, hown, hts, hr, hlocks, hK, hA, hR, hnm⟩ := F
  obtain ⟨hcode, hini, hd1, hd2, hd3⟩ := K
  obtain ⟨r1, r2, r3, r4, r5, r6⟩ := hrm
  subst hq
  subst hR
  subst hs0
  intro H locs ls hP hD hS hl
  have hPc := wSub hP hC
  have hDc : va_D (fun _ => True) wc := ⟨fun i j p q h1 h2 h3 => (hD.sub isC hnC hC).1 i j p q h1 h2 h3, fun _ _ _ => trivial⟩
  have cb := callB_of (R := R) (s := s) (args := args) (own := y.cls) (index := idx) (y := y') (bytes := cc') (maxL := nL') (ret := ret') (rm := rm') (mc := mc) (ms := ms) (ws := wsO y' cc' nL' ret') na hts (tb_pay hcode) rfl r3 r4 (hts _ hini) (hts _ hlk1) ⟨hd1, hd2, hd3⟩ ⟨r1, r2⟩
  refine j_run (va_runS (As := As) (rest := st) ⟨hx, hb, hml, hown, hts⟩ (hM H.size) ⟨cb, hts _ hsta⟩ ⟨gB, fun U hU hW => ⟨rfl, by rw [hU], by rw [hU]; exact hPc, gK.warm hW hK, hDc⟩⟩ rfl hna hl.1 rfl (lv_room hst) d ⟨r5, r6⟩) hP hD hS hA isC isR hC hRr hn hdis (fun r w2 H1 locs1 hp hP hD hS => kk r w2 hp H1 locs1 ls hP hD hS hl)
theorem j_callI (F : Fx G X y cc nL ret rm) {y' : MethodName} {cc' : ByteArray} {nL' na idx mc ms : Nat} {rm' : Room} {post : Option Value → va_W → Prop} {wc wr : va_W} {st0 As : List Value} {b : Nat} (hM : Mg G y' cc' nL' none rm' mc ms (.ref b :: As) wc post) (K : Kw y' cc' nL' none na) (hyn : y'.name = "<init>") (hin : Cond.instanceMethod y' ∈ TB) (hlk1 : Cond.methodLink y.cls idx y' ∈ TB) (hrm : rm'.frames + 1 ≤ rm.frames ∧ 8 + (nL' + 11) + rm'.locals ≤ rm.locals ∧ rm'.cells = mc ∧ rm'.slots = ms ∧ k + mc ≤ rm.cells ∧ n + ms ≤ rm.slots) (isC isR : List Nat) (hnC : va_nd isC = true) (hC : isC.map (fun i => w[i]?) = wc.map some) (hRr : isR.map (fun i => w[i]?) = wr.map some) (hn : va_nd isR = true) (hdis : (isR.all fun i => !(isC.contains i)) = true) (hs0 : st0 = As.reverse ++ .ref b :: st) (hna : As.length = na) (hst : (st.map fun v => v.category).sum ≤ 8) (d : decode cc pc = .ok (.invokespecial idx, 3)) (hq : pc + 3 = q) (kk : ∀ (r : Option Value) (w2 : va_W), post r w2 → Jw G X nL (k + mc) (n + ms) q lv (r.toList ++ st) (wr ++ w2)) : Jw G X nL k n pc lv st0 w := by
  obtain ⟨l, D, cI, cP⟩ := G
  obtain ⟨p, e, R, s, m, args, below, meth, c, A, Q⟩ := X
  obtain ⟨hx, hb, hml, hown, hts, hr, hlocks, hK, hA, hR, hnm⟩ := F
  obtain ⟨hcode, hini, hd1, hd2, hd3⟩ := K
  obtain ⟨r1, r2, r3, r4, r5, r6⟩ := hrm
  subst hq
  subst hR
  subst hs0
  intro H locs ls hP hD hS hl
  have hPc := wSub hP hC
  have hDc : va_D (fun _ => True) wc := ⟨fun i j p q h1 h2 h3 => (hD.sub isC hnC hC).1 i j p q h1 h2 h3, fun _ _ _ => trivial⟩
  have cb := callB_of (R := R) (s := s) (args := args) (own := y.cls) (index := idx) (y := y') (bytes := cc') (maxL := nL') (ret := none) (rm := rm') (mc := mc) (ms := ms) (ws := wsO y' cc' nL' none) na hts (tb_pay hcode) rfl r3 r4 (hts _ hini) (hts _ hlk1) ⟨hd1, hd2, hd3⟩ ⟨r1, r2⟩
  refine j_run (va_runI (As := As) (rest := st) ⟨hx, hb, hml, hown, hts⟩ (hM H.size) ⟨cb, hyn, hts _ hin⟩ ⟨gB, fun U hU hW => ⟨rfl, by rw [hU], by rw [hU]; exact hPc, gK.warm hW hK, hDc⟩⟩ rfl hna hl.1 rfl (lv_room hst) d ⟨r5, r6⟩) hP hD hS hA isC isR hC hRr hn hdis (fun r w2 H1 locs1 hp hP hD hS => kk r w2 hp H1 locs1 ls hP hD hS hl)
theorem j_callIN (F : Fx G X y cc nL ret rm) {y' : MethodName} {cc' : ByteArray} {nL' na idx mc ms : Nat} {rm' : Room} {post : Option Value → va_W → Prop} {wc wr : va_W} {st0 As : List Value} {b : Nat} {host : String} (hM : Mg G y' cc' nL' none rm' mc ms (.ref b :: As) wc post) (K : Kw y' cc' nL' none na) (hyn : y'.name = "<init>") (hin : Cond.instanceMethod y' ∈ TB) (hlk1 : Cond.methodLinkNest y.cls idx y' host ∈ lw_nest) (hrm : rm'.frames + 1 ≤ rm.frames ∧ 8 + (nL' + 11) + rm'.locals ≤ rm.locals ∧ rm'.cells = mc ∧ rm'.slots = ms ∧ k + mc ≤ rm.cells ∧ n + ms ≤ rm.slots) (isC isR : List Nat) (hnC : va_nd isC = true) (hC : isC.map (fun i => w[i]?) = wc.map some) (hRr : isR.map (fun i => w[i]?) = wr.map some) (hn : va_nd isR = true) (hdis : (isR.all fun i => !(isC.contains i)) = true) (hs0 : st0 = As.reverse ++ .ref b :: st) (hna : As.length = na) (hst : (st.map fun v => v.category).sum ≤ 8) (d : decode cc pc = .ok (.invokespecial idx, 3)) (hq : pc + 3 = q) (kk : ∀ (r : Option Value) (w2 : va_W), post r w2 → Jw G X nL (k + mc) (n + ms) q lv (r.toList ++ st) (wr ++ w2)) : Jw G X nL k n pc lv st0 w := by
  obtain ⟨l, D, cI, cP⟩ := G
  obtain ⟨p, e, R, s, m, args, below, meth, c, A, Q⟩ := X
  obtain ⟨hx, hb, hml, hown, hts, hr, hlocks, hK, hA, hR, hnm⟩ := F
  obtain ⟨hcode, hini, hd1, hd2, hd3⟩ := K
  obtain ⟨r1, r2, r3, r4, r5, r6⟩ := hrm
  subst hq
  subst hR
  subst hs0
  intro H locs ls hP hD hS hl
  have hPc := wSub hP hC
  have hDc : va_D (fun _ => True) wc := ⟨fun i j p q h1 h2 h3 => (hD.sub isC hnC hC).1 i j p q h1 h2 h3, fun _ _ _ => trivial⟩
  have cb := va_cnB (R := R) (s := s) (args := args) (own := y.cls) (host := host) (index := idx) (y := y') (bytes := cc') (maxL := nL') (ret := none) (rm := rm') (mc := mc) (ms := ms) (ws := wsO y' cc' nL' none) na hts (tb_pay hcode) rfl r3 r4 (hK.2.1 _ hlk1) (hts _ hini) ⟨hd1, hd2, hd3⟩ ⟨r1, r2⟩
  refine j_run (va_runIN (As := As) (rest := st) ⟨hx, hb, hml, hown, hts⟩ (hM H.size) ⟨cb, hyn, hts _ hin⟩ ⟨gB, fun U hU hW => ⟨rfl, by rw [hU], by rw [hU]; exact hPc, gK.warm hW hK, hDc⟩⟩ rfl hna hl.1 rfl (lv_room hst) d ⟨r5, r6⟩) hP hD hS hA isC isR hC hRr hn hdis (fun r w2 H1 locs1 hp hP hD hS => kk r w2 hp H1 locs1 ls hP hD hS hl)
end JR
