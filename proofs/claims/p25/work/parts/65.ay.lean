/-! what a method that makes cells needs -/
abbrev rmb (f n : Nat) : Room := { frames := f, cells := 2, slots := 26, locals := n }
def aY (D : va_G) (cO : ClassId) (A : Nat → Prop) (e0 zA : Nat) (U : State) : Prop :=
  CO U ∧ va_AO "java/lang/Object" U ∧ va_T (.object "java/lang/Object") e0 0 (fun _ => .null) A U U.heap ∧ va_Z "java/util/ArrayList" "DEFAULTCAPACITY_EMPTY_ELEMENTDATA" "[Ljava/lang/Object;" (.ref e0) A U U.heap ∧ zA ≤ U.heap.size
theorem aY.grow {D : va_G} {cO : ClassId} {A : Nat → Prop} {a e0 zA : Nat} {s : State} {H : Heap} {locs : List Loc} (h : aY D cO A e0 zA s) (hS : va_S A s.heap H locs) (hn : ¬ A e0) (ha : A a) (hAz : ∀ q, zA ≤ q → A q) : ∀ U : State, U.heap = H → s.WarmedH U.vm → growY D cO a e0 H.size U := by
  intro U hU hW
  obtain ⟨-, hao, hT, hZ, hz⟩ := h
  have hT1 := va_T.kept hT hS.2.1
  have hlt : e0 < H.size := by
    obtain ⟨cell, hc, -⟩ := hT1
    exact (Array.getElem?_eq_some_iff.mp hc).1
  have hsub : ∀ q, alZ a H.size q → A q := fun q hh => hh.elim (fun e => by rw [e]; exact ha) (fun hh => hAz q (Nat.le_trans hz (Nat.le_trans hS.1 hh)))
  refine ⟨by rw [hU]; exact va_T.moved hW.alike (va_T.narrow hT1 hsub), ?_, by rw [hU]; exact Nat.le_refl _, va_AO.moved hW.alike hao, fun e => hn (by rw [e]; exact ha), hlt⟩
  rw [hU]
  exact va_Z.moved hW.alike ((va_Z.kept hZ hS.2.1).narrow hsub)
theorem aY.pre {D : va_G} {cO : ClassId} {A : Nat → Prop} {a e0 zA v : Nat} {s : State} {H : Heap} {locs : List Loc} {tys : List (ClassId × FieldType)} {ws : va_W} {av : List Value} (h : aY D cO A e0 zA s) (hS : va_S A s.heap H locs) (hn : ¬ A e0) (ha : A a) (hAz : ∀ q, zA ≤ q → A q) (hP : va_P D vwCl ws H) (hK : va_K D vwCl tys s) (hN : NW s) (hV : va_Any "java/lang/Object" s H v) :
    ∀ U : State, U.heap = H → s.WarmedH U.vm → va_Pc av (rdY D tys ws (gaY D cO a e0 H.size v)) av.toArray U :=
  fun U hU hW => ⟨rfl, (rd_pre (av := av) hP hK hN U hU hW).2, h.grow hS hn ha hAz U hU hW, anyQ.move hW.alike (by rw [hU]; exact fun j _ y hy => by cases hy; exact hV)⟩
theorem pl_call1 {D : va_G} {L : List Nat} {f : Nat → va_E} {H H1 : Heap} {b : Nat} {e e' : va_E} (hP : va_P D vwCl (va_pl L f ++ [(b, e)]) H) (hb : b ∉ L) (hk : ∀ q : Nat, q < H.size → ¬ q = b → H1[q]? = H[q]?) (hP1 : va_P D vwCl [(b, e')] H1) : va_P D vwCl (va_pl (L ++ [b]) (va_up f b e')) H1 := by
  rw [← va_pl_push hb]
  refine va_P.app ((va_P_in hP (fun q hq => List.mem_append_left _ hq)).kept (fun k x hx => ?_)) hP1
  have hm := List.mem_of_getElem? hx
  obtain ⟨z, hz, ez⟩ := List.mem_map.mp hm
  subst ez
  have hlt := va_at.lt ((va_P_in hP (fun q hq => List.mem_append_left _ hq) : va_P D vwCl (va_pl L f) H) k _ hx)
  exact hk z hlt (fun e => hb (by rw [← e]; exact hz))
theorem row_disj {cI cO : ClassId} {L : List Nat} {f : Nat → va_E} {tg : Nat → Nat} {AD : Nat → Nat → Nat} {mc : Nat → Int32} {F : Nat → Nat → Int32} {ik kp tu : Nat → Int32} {n : Nat} {he gv : Nat → Int32} {gp gb ob nm lo : Int32} {x : Nat} (h : Rep cI cO L f tg AD mc F ik kp tu n he gv gp gb ob nm lo) (hx : x < n) : (F 6 x = 0 ∧ AD 4 x = AD 7 0) ∨ (tg (AD 4 x) = 400 + x ∧ ∃ q : Nat → Option Nat, Hs L f (AD 4 x) (refs cO 10 q) ∧ ∀ j, j < i2n (F 6 x) → q j = some (AD 5 (6 * x + j))) := (h.2.2.2.1 x hx).2.2.2.1
theorem ent_any {D : va_G} {L : List Nat} {f : Nat → va_E} {H : Heap} {s : State} {tys : List (ClassId × FieldType)} {b : Nat} {vs : List Value} (hb : Hs L f b (.inr (1, vs))) (hK : va_K D vwCl tys s) (hP : va_P D vwCl (va_pl L f) H) (hC : CO s) : va_Any "java/lang/Object" s H b := by
  obtain ⟨k5, e5⟩ := hb.at
  exact va_rAny hK hP e5 (r := (RX0, TX0, 4)) rfl (vb_asgC hC.1)
theorem alF_D {cO : ClassId} {a b m9 : Nat} : True := trivial
