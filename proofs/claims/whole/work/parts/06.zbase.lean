/-! more rows: switches, the signs at hand, a boolean number handed back -/
def gz (v : Int32) : Option Unit := if v &&& 1 = v then some () else none
section ZB
variable {p : Program} {l : Launch} {e : Env} {R : Room} {s : State} {m : MethodId} {args : Array Value} {below : List Frame} {meth : Method} {c : Code} {H : Heap} {locs : List Loc} {cells slots : Nat} {Q : State → Prop}
variable {D : va_G} {k : Nat → ClassId} {a : Nat → Nat} {S : XS} {cc : ByteArray} {nL pc : Nat} {rest : List Value} {own : String} {ls : Array Slot} {A : Nat → Prop} {w' : va_W}
theorem wr_gret {v : Int32} {z : Unit} {ty : List (ClassId × FieldType)} (hz : gz v = some z) (C : Cx p s m c args own cc nL D ty) (hr : meth.sig.returnType = some .boolean) (hlocks : meth.locks = false) (hP : va_P D vwCl w' H) (hS : va_S A s.heap H locs) (hdg : decode cc pc = .ok (.ireturn, 1)) : W p l e R s m args below meth c H locs 0 0 (MQ below (Qw D w' (some (.int v)) A) args s 0 0 A) (F0 m pc ls [.int v]) := by
  have hn : narrow .boolean (.int v) = .int v := by
    by_cases q : v &&& 1 = v
    · show Value.int (v &&& 1) = .int v
      rw [q]
    · rw [gz, if_neg q] at hz
      cases hz
  exact W.zret C.1.1 C.1.2.1 hr hn (fun _ ht _ => ⟨rfl, by rw [ht]; exact hP, hS.F ht⟩) hS.2.2 hdg hlocks
theorem acmp_ne (hx : p.tables.exec = Jvm.exec) (hb : c.code = cc) (hD : va_D A (wX k a S)) {off : Int} {tgt : Nat} (hdg : decode cc pc = .ok (.if_acmp .ne off, 3)) (ht : (pc : Int) + off = (tgt : Int)) {v : Int32} (hv : S.1 20 = v)
    (kt : v = 0 → W p l e R s m args below meth c H locs cells slots Q (F0 m tgt ls rest)) (kf : ¬ v = 0 → W p l e R s m args below meth c H locs cells slots Q (F0 m (pc + 3) ls rest)) : W p l e R s m args below meth c H locs cells slots Q (F0 m pc ls (.ref (a 10) :: .ref (sg a S) :: rest)) := by
  subst hv
  refine lv_acmp_ne (rx := some (sg a S)) (ry := some (a 10)) hx hb hdg ht (fun q => kt ?_) (fun q => kf ?_)
  · by_cases h0 : S.1 20 = 0
    · exact h0
    · exact absurd (show some (sg a S) = some (a 10) by rw [sg, if_neg h0]) q
  · intro h0
    rw [sg, if_pos h0] at q
    have h1 := hD.1 9 10 (a 9, _) (a 10, _) rfl rfl (Option.some.inj q)
    omega
theorem rXsg (C : Cx p s m c args own cc nL D (tyk k)) (hP : va_P D vwCl (wX k a S) H) : ∃ cell : Cell, H[sg a S]? = some cell ∧ cell.vm.isStatics = false ∧ s.vm.findClass RX4 = some cell.cls := by
  by_cases h0 : S.1 20 = 0
  · rw [sg, if_pos h0]
    exact rX9 C hP
  · rw [sg, if_neg h0]
    exact rX10 C hP
theorem rStr20 {A : Nat → Prop} (h : Ek a A s H) : ∃ cell : Cell, H[a 20]? = some cell ∧ cell.vm.isStatics = false ∧ s.vm.findClass RJ0 = some cell.cls := by
  obtain ⟨cell, h1, h2, h3, -⟩ := (h.1.1 0 (by decide)).1
  exact ⟨cell, h1, h2, h3⟩
theorem rStr21 {A : Nat → Prop} (h : Ek a A s H) : ∃ cell : Cell, H[a 21]? = some cell ∧ cell.vm.isStatics = false ∧ s.vm.findClass RJ0 = some cell.cls := by
  obtain ⟨cell, h1, h2, h3, -⟩ := (h.1.1 1 (by decide)).1
  exact ⟨cell, h1, h2, h3⟩
theorem wrX_iret {r : Int32} {ty : List (ClassId × FieldType)} (C : Cx p s m c args own cc nL D ty) (hr : meth.sig.returnType = some .int) (hlocks : meth.locks = false) (hP : va_P D vwCl (wX k a S) H) (hS : va_S A s.heap H locs) (hdg : decode cc pc = .ok (.ireturn, 1)) : W p l e R s m args below meth c H locs 0 0 (MQ below (Qw D (wX k a ((r, S) : Int32 × XS).2) (some (.int ((r, S) : Int32 × XS).1)) A) args s 0 0 A) (F0 m pc ls [.int r]) := wr_iret C hr hlocks hP hS hdg
theorem wrX_zret {v : Bool} {ty : List (ClassId × FieldType)} (C : Cx p s m c args own cc nL D ty) (hr : meth.sig.returnType = some .boolean) (hlocks : meth.locks = false) (hP : va_P D vwCl (wX k a S) H) (hS : va_S A s.heap H locs) (hdg : decode cc pc = .ok (.ireturn, 1)) : W p l e R s m args below meth c H locs 0 0 (MQ below (Qw D (wX k a ((v, S) : Bool × XS).2) (some (.int (bI ((v, S) : Bool × XS).1))) A) args s 0 0 A) (F0 m pc ls [.int (bI v)]) := wr_zret C hr hlocks hP hS hdg
theorem wrX_gret {v : Int32} {z : Unit} {ty : List (ClassId × FieldType)} (hz : gz v = some z) (C : Cx p s m c args own cc nL D ty) (hr : meth.sig.returnType = some .boolean) (hlocks : meth.locks = false) (hP : va_P D vwCl (wX k a S) H) (hS : va_S A s.heap H locs) (hdg : decode cc pc = .ok (.ireturn, 1)) : W p l e R s m args below meth c H locs 0 0 (MQ below (Qw D (wX k a ((v, S) : Int32 × XS).2) (some (.int ((v, S) : Int32 × XS).1)) A) args s 0 0 A) (F0 m pc ls [.int v]) := wr_gret hz C hr hlocks hP hS hdg
theorem wrM_iret {r : Int32} {ty : List (ClassId × FieldType)} (C : Cx p s m c args own cc nL D ty) (hr : meth.sig.returnType = some .int) (hlocks : meth.locks = false) (hP : va_P D vwCl (wM k a S) H) (hS : va_S A s.heap H locs) (hdg : decode cc pc = .ok (.ireturn, 1)) : W p l e R s m args below meth c H locs 0 0 (MQ below (Qw D (wM k a ((r, S) : Int32 × XS).2) (some (.int ((r, S) : Int32 × XS).1)) A) args s 0 0 A) (F0 m pc ls [.int r]) := wr_iret C hr hlocks hP hS hdg
theorem wrM_zret {v : Bool} {ty : List (ClassId × FieldType)} (C : Cx p s m c args own cc nL D ty) (hr : meth.sig.returnType = some .boolean) (hlocks : meth.locks = false) (hP : va_P D vwCl (wM k a S) H) (hS : va_S A s.heap H locs) (hdg : decode cc pc = .ok (.ireturn, 1)) : W p l e R s m args below meth c H locs 0 0 (MQ below (Qw D (wM k a ((v, S) : Bool × XS).2) (some (.int (bI ((v, S) : Bool × XS).1))) A) args s 0 0 A) (F0 m pc ls [.int (bI v)]) := wr_zret C hr hlocks hP hS hdg
theorem wrM_gret {v : Int32} {z : Unit} {ty : List (ClassId × FieldType)} (hz : gz v = some z) (C : Cx p s m c args own cc nL D ty) (hr : meth.sig.returnType = some .boolean) (hlocks : meth.locks = false) (hP : va_P D vwCl (wM k a S) H) (hS : va_S A s.heap H locs) (hdg : decode cc pc = .ok (.ireturn, 1)) : W p l e R s m args below meth c H locs 0 0 (MQ below (Qw D (wM k a ((v, S) : Int32 × XS).2) (some (.int ((v, S) : Int32 × XS).1)) A) args s 0 0 A) (F0 m pc ls [.int v]) := wr_gret hz C hr hlocks hP hS hdg
end ZB
theorem i32_ne {x : Int32} (n : Int) (hn : (Int32.ofInt n).toInt = n) (h : ¬ x = Int32.ofInt n) : x.toInt ≠ n := fun q => h (Int32.toInt_inj.mp (by rw [q, hn]))
theorem lk12 {x : Int32} {o1 o2 d : Int} (h1 : ¬ x = 1) (h2 : ¬ x = 2) : Op.lookupswitch.offset (#[(1, o1), (2, o2)] : Array (Int × Int)).toList d x.toInt = d := by
  have e1 := i32_ne (x := x) 1 (by decide) h1
  have e2 := i32_ne (x := x) 2 (by decide) h2
  show (if (1 : Int) = x.toInt then o1 else if (2 : Int) = x.toInt then o2 else d) = d
  rw [if_neg (fun q => e1 q.symm), if_neg (fun q => e2 q.symm)]
theorem ts_1_9 {x : Int32} (h1 : ¬ x = 1) (h2 : ¬ x = 2) (h3 : ¬ x = 3) (h4 : ¬ x = 4) (h5 : ¬ x = 5) (h6 : ¬ x = 6) (h7 : ¬ x = 7) (h8 : ¬ x = 8) (h9 : ¬ x = 9) : x.toInt < 1 ∨ 9 < x.toInt := by
  have e1 := i32_ne (x := x) 1 (by decide) h1
  have e2 := i32_ne (x := x) 2 (by decide) h2
  have e3 := i32_ne (x := x) 3 (by decide) h3
  have e4 := i32_ne (x := x) 4 (by decide) h4
  have e5 := i32_ne (x := x) 5 (by decide) h5
  have e6 := i32_ne (x := x) 6 (by decide) h6
  have e7 := i32_ne (x := x) 7 (by decide) h7
  have e8 := i32_ne (x := x) 8 (by decide) h8
  have e9 := i32_ne (x := x) 9 (by decide) h9
  omega
theorem ts_10_23 {x : Int32} (h0 : ¬ x = 10) (h1 : ¬ x = 11) (h2 : ¬ x = 12) (h3 : ¬ x = 13) (h4 : ¬ x = 14) (h5 : ¬ x = 15) (h6 : ¬ x = 16) (h7 : ¬ x = 17) (h8 : ¬ x = 18) (h9 : ¬ x = 19) (g0 : ¬ x = 20) (g1 : ¬ x = 21) (g2 : ¬ x = 22) (g3 : ¬ x = 23) : x.toInt < 10 ∨ 23 < x.toInt := by
  have e0 := i32_ne (x := x) 10 (by decide) h0
  have e1 := i32_ne (x := x) 11 (by decide) h1
  have e2 := i32_ne (x := x) 12 (by decide) h2
  have e3 := i32_ne (x := x) 13 (by decide) h3
  have e4 := i32_ne (x := x) 14 (by decide) h4
  have e5 := i32_ne (x := x) 15 (by decide) h5
  have e6 := i32_ne (x := x) 16 (by decide) h6
  have e7 := i32_ne (x := x) 17 (by decide) h7
  have e8 := i32_ne (x := x) 18 (by decide) h8
  have e9 := i32_ne (x := x) 19 (by decide) h9
  have f0 := i32_ne (x := x) 20 (by decide) g0
  have f1 := i32_ne (x := x) 21 (by decide) g1
  have f2 := i32_ne (x := x) 22 (by decide) g2
  have f3 := i32_ne (x := x) 23 (by decide) g3
  omega
