abbrev cOu (cJ : ClassId) (ov : Nat → Int64) (h0 : Nat) : va_W := [(h0, .inl (cJ, 1, .inr (.inl ov)))]
def NC (U : State) : Prop := va_Nc "java/lang/IllegalArgumentException" "java/lang/IndexOutOfBoundsException" U ∧ va_Nc "java/lang/IllegalStateException" "java/lang/IndexOutOfBoundsException" U ∧ va_Nc "java/lang/IllegalStateException" "java/lang/IllegalArgumentException" U
theorem NC.moved {u U : State} (h : u.vm.Alike U.vm) (k : NC u) : NC U := ⟨k.1.moved h, k.2.1.moved h, k.2.2.moved h⟩
def cPreY (D : va_G) (tys : tyL) (w : va_W) (sz : Nat) : State → Prop := fun U => cPreX D tys w sz U ∧ NC U
theorem cPreY_blind {av : List Value} {D : va_G} {tys : tyL} {w : va_W} {sz : Nat} : FrameBlind (va_Pc av (cPreY D tys w sz)) := fun a U g mk q => by
  obtain ⟨q0, q1, q2⟩ := q
  have h := cPreX_blind (av := av) (D := D) (tys := tys) (w := w) (sz := sz) a U g mk ⟨q0, q1⟩
  exact ⟨h.1, h.2, q2.moved (u := U) (U := U.calling g mk a) (Vm.Alike.refl U.vm)⟩
/-- a method of the law with a table of its own: an int answer and a world that are known -/
def CW (l : Launch) (y : MethodName) (ws : List Cond) (k : Nat) (av : List Value) (D : va_G) (tys : tyL) (w : va_W) (r : Int) (w' : va_W) : Prop :=
  ∀ sz, Met l y ws (rK k 1 6) (va_Pc av (cPreY D tys w sz)) (va_Qi (fun q (_ : Unit) => q = iI r) (fun _ => cB D tys (va_A w sz) w') (va_A w sz)) 1 6 (va_A w sz)
theorem ct_w {l : Launch} {y : MethodName} {ws ws' : List Cond} {k : Nat} {av : List Value} {D : va_G} {tys : tyL} {w w' : va_W} {r : Int} {cc : ByteArray} {maxL : Nat} {ret : Option FieldType} {hh : List (Nat × Nat × Nat × Nat)}
    (hy : plainFor y = true) (hw : ws = Cond.codeWith y cc maxL ret hh :: ws') (hn : (lg_sl av).length ≤ maxL)
    (body : ∀ (p : Program) (e : Env) (s : State) (m : MethodId) (args : Array Value) (below : List Frame) (meth : Method) (c : Code) (ls : Array Slot) (A : Nat → Prop), p.tables.exec = Jvm.exec → c.code = cc → meth.sig.returnType = ret → c.maxLocals = maxL → (∀ w ∈ ws, w.before args s = true) → s.vm.findClass y.cls = some m.cls → meth.locks = false → c.exceptionTable.toList = tableOf hh → (∀ q, s.heap.size ≤ q → A q) → va_P D vwCl w s.heap → va_K D vwCl tys s → va_D A w → NW s → XP A s s.heap → NC s → va_S A s.heap s.heap [] → lv_has ls maxL (lv_args 0 av) → ∀ Q : State → Prop, MQ below (va_Qi (fun q (_ : Unit) => q = iI r) (fun _ => cB D tys A w') A) args s 1 6 A = Q → W p l e (rK k 1 6) s m args below meth c s.heap [] 0 0 Q (F0 m 0 ls [])) :
    CW l y ws k av D tys w r w' := by
  intro sz
  refine MetFree.of_bodySF (code := cc) (maxLocals := maxL) (ret := ret) hy ?_ ?_
  · intro args s m h hn
    obtain ⟨m9, meth, c, hn9, h1, h2, h3, h4, -, h5, h6, -⟩ := Cond.codeWith_spec (atoms_spec (ws := ws) h _ (by rw [hw]; exact List.mem_cons_self))
    cases hn.symm.trans hn9
    exact ⟨meth, c, h1, h2, h3, h4, h5, h6⟩
  · intro p e s m args below meth c s₁ B hml hv _
    have hh0 : s₁.heap = s.heap := by rw [B.state]; rfl
    obtain ⟨rfl, ⟨⟨hsz, hP, hK, hD0, hN⟩, hX⟩, hNC⟩ := hv
    have hts := atoms_spec (ws := ws) B.pre
    have htab := vx_table (x := y) B (hts _ (by rw [hw]; exact List.mem_cons_self))
    subst hsz
    have hD := hD0.self (sz := s.heap.size)
    have hl := lv_entry av (n := maxL) hn
    have hst := Stand.of_body B
    rw [lg_entry_eq] at *
    generalize (lg_sl av ++ List.replicate (maxL - (lg_sl av).length) Slot.unset).toArray = ls at *
    obtain ⟨t, a1, o, b1, b2, b3⟩ := body p e s m _ below meth c ls (va_A w s.heap.size) B.exec B.bytes B.returns hml hts (findClass_of_methodNamed B.named) B.notSynchronized htab (fun q h => Or.inr h) hP hK hD hN hX hNC va_S.rf hl _ rfl s₁ hh0 hst
    exact ⟨t, o, a1, b1, b2, ⟨b3.1, b3.2⟩⟩
section WRP
variable {p : Program} {l : Launch} {e : Env} {R : Room} {s : State} {m : MethodId} {args : Array Value} {below : List Frame} {meth : Method} {c : Code} {H : Heap} {locs : List Loc} {cells slots : Nat} {Q : State → Prop}
variable {cc : ByteArray} {pc : Nat} {ls : Array Slot} {rest : List Value} {D : va_G} {A : Nat → Prop} {tys : tyL} {w : va_W} {a : Nat} {H0 : Heap}
theorem li_wide {g : JFrame} {k n : Nat} (h1 : cells ≤ k) (h2 : slots ≤ n) (kk : W p l e R s m args below meth c H locs k n Q g) : W p l e R s m args below meth c H locs cells slots Q g := fun T hT X => kk T hT (stand_widen X h1 h2)
theorem li_last {q0 t0 : Nat} {cA : ClassId} {f : Nat → Int64} {x : Int64} {w2 : va_W} (hx : p.tables.exec = Jvm.exec) (hb : c.code = cc) (hK : va_K D vwCl tys s) (hP : va_P D vwCl w H) (hD : va_D A w) (hS : va_S A H0 H locs) (ha : w[q0]? = some (a, .inl (cA, 1, .inr (.inl f)))) (ht : tys[t0]? = some (cA, .long)) (hdg : decode cc pc = .ok (.lastore, 1)) (hw : w.set q0 (a, .inl (cA, 1, .inr (.inl (vp_updL f 0 x)))) = w2)
    (k : ∀ (H1 : Heap) (locs1 : List Loc), va_P D vwCl w2 H1 → va_D A w2 → va_S A H0 H1 locs1 → W p l e R s m args below meth c H1 locs1 cells slots Q (F0 m (pc + 1) ls rest)) : W p l e R s m args below meth c H locs cells slots Q (F0 m pc ls (.long x :: .int (iI 0) :: .ref a :: rest)) :=
  va_last hx hb hK hP hD hS q0 t0 ha ht (bz_in (by decide) (by decide) ib_0) hdg (fun H1 locs1 p1 d1 s1 => k H1 locs1 (by rw [show (iI 0).toNatClampNeg = 0 from rfl, hw] at p1; exact p1) (by rw [show (iI 0).toNatClampNeg = 0 from rfl, hw] at d1; exact d1) s1)
end WRP
