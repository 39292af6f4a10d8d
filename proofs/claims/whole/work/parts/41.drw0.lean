def CD (l : Launch) (y : MethodName) (ws : List Cond) (k : Nat) (av : List Value) (D : va_G) (tys : tyL) (w : va_W) (x : UInt64) (w' : va_W) : Prop :=
  ∀ sz, MetD lw_cs l y ws (rK k 0 0) (va_Pc av (cPre D tys w sz)) (va_Qd (fun r (_ : Unit) => alike64 r x = true) (fun _ => cB D tys (va_A w sz) w') (va_A w sz)) 0 0 (va_A w sz)
def CF (l : Launch) (y : MethodName) (ws : List Cond) (k : Nat) (av : List Value) (D : va_G) (tys : tyL) (w : va_W) (x : UInt32) (w' : va_W) : Prop :=
  ∀ sz, MetD lw_cs l y ws (rK k 0 0) (va_Pc av (cPre D tys w sz)) (va_Qf (fun r (_ : Unit) => alike32 r x = true) (fun _ => cB D tys (va_A w sz) w') (va_A w sz)) 0 0 (va_A w sz)
theorem ct_D {l : Launch} {y : MethodName} {ws ws' : List Cond} {k : Nat} {av : List Value} {D : va_G} {tys : tyL} {w : va_W} {cc : ByteArray} {maxL : Nat} {ret : Option FieldType} {Qf : (Nat → Prop) → Array Value → State → Outcome → State → Prop}
    (hy : plainName y.cls = true) (hw : ws = Cond.code y cc maxL ret :: ws') (hn : (lg_sl av).length ≤ maxL)
    (body : ∀ (p : Program) (e : Env) (s : State) (m : MethodId) (args : Array Value) (below : List Frame) (meth : Method) (c : Code) (ls : Array Slot) (A : Nat → Prop), p.tables.exec = Jvm.exec → c.code = cc → meth.sig.returnType = ret → c.maxLocals = maxL → (∀ w ∈ ws, w.before args s = true) → s.vm.findClass y.cls = some m.cls → meth.locks = false → (∀ q, s.heap.size ≤ q → A q) → va_P D vwCl w s.heap → va_K D vwCl tys s → va_D A w → NW s → va_S A s.heap s.heap [] → lv_has ls maxL (lv_args 0 av) → ∀ Q : State → Prop, MQD lw_cs below (Qf A) args s 0 0 A = Q → W p l e (rK k 0 0) s m args below meth c s.heap [] 0 0 Q (F0 m 0 ls [])) :
    ∀ sz, MetD lw_cs l y ws (rK k 0 0) (va_Pc av (cPre D tys w sz)) (Qf (va_A w sz)) 0 0 (va_A w sz) := by
  intro sz
  refine MetD.ofW (cc := cc) (maxL := maxL) (ret := ret) hy hw ?_
  intro p e s m args below meth c s₁ B hml hv _
  obtain ⟨rfl, hsz, hP, hK, hD0, hN⟩ := hv
  have hts := atoms_spec (ws := ws) B.pre
  subst hsz
  have hD := hD0.self (sz := s.heap.size)
  have hl := lv_entry av (n := maxL) hn
  rw [lg_entry_eq]
  generalize (lg_sl av ++ List.replicate (maxL - (lg_sl av).length) Slot.unset).toArray = ls at hl ⊢
  exact body p e s m _ below meth c ls (va_A w s.heap.size) B.exec B.bytes B.returns hml hts (findClass_of_methodNamed B.named) B.notSynchronized (fun q h => Or.inr h) hP hK hD hN va_S.rf hl _ rfl
section DRW
variable {p : Program} {l : Launch} {e : Env} {R : Room} {s : State} {m : MethodId} {args : Array Value} {below : List Frame} {meth : Method} {c : Code} {H : Heap} {locs : List Loc} {cells slots : Nat} {Q : State → Prop}
variable {cc : ByteArray} {pc : Nat} {ls : Array Slot} {rest : List Value} {D : va_G} {A : Nat → Prop} {tys : tyL} {w w' : va_W} {d1 : Drawn}
theorem li_dret {r x : UInt64} (hal : alike64 r x = true) (hx : p.tables.exec = Jvm.exec) (hb : c.code = cc) (hr : meth.sig.returnType = some .double) (hlocks : meth.locks = false) (hK : va_K D vwCl tys s) (hP : va_P D vwCl w H) (hD : va_D A w) (hS : va_S A s.heap H locs) (hdg : decode cc pc = .ok (.dreturn, 1)) (hQ : MQD lw_cs below (va_Qd (fun r (_ : Unit) => alike64 r x = true) (fun _ => cB D tys A w') A) args s 0 0 A = Q) (hd1 : s.drawn.sameBut d1 lw_cs) (hw : w = w') :
    W p l e R (s.setDrawn d1) m args below meth c H locs 0 0 Q (F0 m pc ls [.double r]) := by
  subst hQ; subst hw
  refine W.endD hd1 ?_
  exact W.dret hx hb hr (fun t ht hW => ⟨⟨r, (), rfl, hal, by rw [ht]; exact hP, va_K.moved (u := s) hW.alike hK, hD⟩, hS.F ht⟩) hS.2.2 hdg (hlocks := hlocks)
theorem li_fret {r x : UInt32} (hal : alike32 r x = true) (hx : p.tables.exec = Jvm.exec) (hb : c.code = cc) (hr : meth.sig.returnType = some .float) (hlocks : meth.locks = false) (hK : va_K D vwCl tys s) (hP : va_P D vwCl w H) (hD : va_D A w) (hS : va_S A s.heap H locs) (hdg : decode cc pc = .ok (.freturn, 1)) (hQ : MQD lw_cs below (va_Qf (fun r (_ : Unit) => alike32 r x = true) (fun _ => cB D tys A w') A) args s 0 0 A = Q) (hd1 : s.drawn.sameBut d1 lw_cs) (hw : w = w') :
    W p l e R (s.setDrawn d1) m args below meth c H locs 0 0 Q (F0 m pc ls [.float r]) := by
  subst hQ; subst hw
  refine W.endD hd1 ?_
  exact W.fret hx hb hr (fun t ht hW => ⟨⟨r, (), rfl, hal, by rw [ht]; exact hP, va_K.moved (u := s) hW.alike hK, hD⟩, hS.F ht⟩) hS.2.2 hdg (hlocks := hlocks)
end DRW
