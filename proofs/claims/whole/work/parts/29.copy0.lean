theorem cell_ext {cA : ClassId} {n : Nat} {f g : Nat → Int32} (h : ∀ i, i < n → f i = g i) : vp_cell cA (n, .inl f) = vp_cell cA (n, .inl g) := by
  show arrV cA n (fun j => .int (f j)) = arrV cA n (fun j => .int (g j))
  unfold arrV
  have e : (Array.ofFn (n := n) fun j => Value.int (f j.val)) = (Array.ofFn (n := n) fun j => Value.int (g j.val)) := by
    congr 1
    funext j
    rw [h j.val j.isLt]
  rw [e]
theorem va_P_ext {D : va_G} {cl : List vw_C} {ws : va_W} {H : Heap} {q1 a : Nat} {c1 : ClassId} {n : Nat} {f g : Nat → Int32} (hq : q1 < ws.length) (hfg : ∀ i, i < n → f i = g i) (h : va_P D cl (ws.set q1 (a, .inl (c1, n, .inl f))) H) : va_P D cl (ws.set q1 (a, .inl (c1, n, .inl g))) H := by
  intro k q hk
  by_cases e : k = q1
  · subst e
    have h1 := h k (a, .inl (c1, n, .inl f)) (by rw [List.getElem?_set_self hq])
    rw [List.getElem?_set_self hq] at hk
    cases hk
    show H[a]? = some (vp_cell c1 (n, .inl g))
    have h2 : H[a]? = some (vp_cell c1 (n, .inl f)) := h1
    rw [h2, cell_ext hfg]
  · refine h k q ?_
    rw [List.getElem?_set_ne (by omega)] at hk ⊢
    exact hk
section CPY
variable {p : Program} {l : Launch} {e : Env} {R : Room} {s : State} {m : MethodId} {args : Array Value} {below : List Frame} {meth : Method} {c : Code} {H : Heap} {locs : List Loc} {cells slots : Nat} {Q : State → Prop}
variable {cc : ByteArray} {pc : Nat} {ls : Array Slot} {rest : List Value} {D : va_G} {A : Nat → Prop} {a : Nat} {tys : tyL} {w : va_W} {H0 : Heap}
theorem li_copyA (hx : p.tables.exec = Jvm.exec) (hb : c.code = cc) (hml : c.maxLocals = ls.size) {own : String} {index : Nat} (hown : s.vm.findClass own = some m.cls) (hlink : (Cond.methodLink own index arraycopyName).before args s = true) (hnat : (Cond.native arraycopyName).before args s = true) (hstat : (Cond.static arraycopyName).before args s = true) (hini : (Cond.initialized "java/lang/System").before args s = true)
    (hK : va_K D vwCl tys s) (hP : va_P D vwCl w H) (hD : va_D A w) (hS : va_S A H0 H locs) (q0 q1 t0 : Nat) {a0 : Nat} {c0 : ClassId} {n : Nat} {f g : Int → Int} {z : Int} {w2 : va_W} (ha0 : w[q0]? = some (a0, .inl (c0, n, .inl (aZ f)))) (ha1 : w[q1]? = some (a, .inl (c0, n, .inl (aZ g)))) (ht0 : tys[t0]? = some (c0, .int)) (hz : z = (n : Int)) (hzb : ib z)
    (hframes : 1 ≤ R.frames) (hlocals : (rest.map fun v => v.category).sum + (nativeFrameWords "java/lang/System" "arraycopy" 5 + 11) ≤ R.locals) (hdg : decode cc pc = .ok (.invokestatic index, 3)) (hw : w.set q1 (a, .inl (c0, n, .inl (aZ f))) = w2)
    (k : ∀ (H1 : Heap) (locs1 : List Loc), va_P D vwCl w2 H1 → va_D A w2 → va_S A H0 H1 locs1 → W p l e R s m args below meth c H1 locs1 cells slots Q (F0 m (pc + 3) ls rest)) : W p l e R s m args below meth c H locs cells slots Q (F0 m pc ls (.int (iI z) :: .int (iI 0) :: .ref a :: .int (iI 0) :: .ref a0 :: rest)) := by
  have hn0 : 0 ≤ z := by omega
  have en : (iI z).toNatClampNeg = n := by rw [iI_cl hn0 hzb, hz]; rfl
  have e0 : (iI 0).toNatClampNeg = 0 := rfl
  have hlt : ¬ iI z < 0 := by
    intro h
    have h2 := (iI_lt hzb ib_0).mp h
    omega
  have hl1 : q1 < w.length := (List.getElem?_eq_some_iff.mp ha1).1
  refine va_copyi hx hb hml hown hlink hnat hstat hini hK hP hD hS q0 q1 t0 t0 ha0 ha1 ht0 ht0 rfl (sp := iI 0) (dp := iI 0) (n := iI z) (by decide) (by decide) hlt (by rw [e0, en]; omega) (by rw [e0, en]; omega) (fun _ _ => rfl) hframes hlocals hdg (fun H1 locs1 p1 d1 s1 => ?_)
  rw [e0, en] at p1 d1
  have p2 := va_P_ext hl1 (fun i hi => show va_cpy (aZ f) (aZ g) 0 0 n i = aZ f i by
    show (if 0 ≤ i ∧ i < 0 + n then aZ f (0 + (i - 0)) else aZ g i) = _
    rw [if_pos (by omega), Nat.zero_add, Nat.sub_zero]) p1
  have d2 : va_D A (w.set q1 (a, .inl (c0, n, .inl (aZ f)))) := hD.set ha1
  rw [hw] at p2 d2
  exact k H1 locs1 p2 d2 s1
end CPY
