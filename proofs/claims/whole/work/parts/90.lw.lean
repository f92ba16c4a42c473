/-! the law: what its entry gives, what holds at its loop's head -/
abbrev Zs (s : State) : Nat → Prop := fun q => s.heap.size ≤ q
def WF (D : va_G) (cO : ClassId) (e0 mi : Nat) (s : State) : Prop :=
  (NW s ∧ HN s ∧ CO s ∧ va_AO "java/lang/Object" s ∧ va_Mi "[Ljava/lang/Object;" mi s ∧ va_Dc s) ∧
  (vx_Zq Bundle.tN "UNASSIGNED_STACK" Bundle.steD (Zs s) s s.heap ∧ vx_Zq Bundle.tN "SUPPRESSED_SENTINEL" Bundle.listD (Zs s) s s.heap) ∧
  ((va_Nw (.declares (Bundle.initS "java/lang/RuntimeException")) s ∧ va_Nw (.declares (Bundle.initS "java/lang/Exception")) s ∧ va_Nw (.declares (Bundle.initS Bundle.tN)) s) ∧ (∀ E ∈ ["java/lang/IndexOutOfBoundsException", "java/lang/IllegalStateException", "java/lang/IllegalArgumentException"], va_Nw (.castable E E) s) ∧ ∀ q ∈ xTx, ∃ sa, vk_R RX4 q.1 q.2 sa s) ∧
  va_T (.object "java/lang/Object") e0 0 (fun _ => .null) (Zs s) s s.heap ∧ va_Z "java/util/ArrayList" "DEFAULTCAPACITY_EMPTY_ELEMENTDATA" "[Ljava/lang/Object;" (.ref e0) (Zs s) s s.heap
section WFS
variable {D : va_G} {cO : ClassId} {e0 mi z : Nat} {s U : State} {H : Heap} {locs : List Loc} {A : Nat → Prop}
theorem WF.nx (h : WF D cO e0 mi s) (hS : va_S (Zs s) s.heap H locs) (hU : U.heap = H) (hW : s.WarmedH U.vm) : NX U := by
  obtain ⟨-, ⟨h1, h2⟩, ⟨⟨h3, h4, h5⟩, h6, h7⟩, -⟩ := h
  refine ⟨⟨?_, ?_⟩, ⟨h3.warmD hW, h4.warmD hW, h5.warmD hW⟩, fun E hE => (h6 E hE).warmC hW, fun q hq => ?_⟩
  · rw [hU]; exact vx_Zq.moved hW.alike (vx_Zq.narrow (vx_Zq.kept h1 hS.2.1) (fun q hq => hq.elim))
  · rw [hU]; exact vx_Zq.moved hW.alike (vx_Zq.narrow (vx_Zq.kept h2 hS.2.1) (fun q hq => hq.elim))
  · obtain ⟨sa, ha⟩ := h7 q hq
    exact ⟨sa, vk_R.warm hW ha⟩
theorem WF.elt (h : WF D cO e0 mi s) : e0 < s.heap.size := by
  obtain ⟨-, -, -, ⟨cell, hc, -⟩, -⟩ := h
  exact (Array.getElem?_eq_some_iff.mp hc).1
theorem WF.ay (h : WF D cO e0 mi s) (hS : va_S (Zs s) s.heap H locs) (hA : ∀ q, A q → Zs s q) (hz : z ≤ H.size) (hU : U.heap = H) (hW : s.WarmedH U.vm) : aY D cO A e0 z U := by
  obtain ⟨⟨-, -, h3, h4, -, -⟩, -, -, hT, h8⟩ := h
  exact ⟨h3.move hW, va_AO.moved hW.alike h4, by rw [hU]; exact va_T.moved hW.alike (va_T.narrow (va_T.kept hT hS.2.1) hA), by rw [hU]; exact va_Z.moved hW.alike ((va_Z.kept h8 hS.2.1).narrow hA), by rw [hU]; exact hz⟩
theorem WF.fy (h : WF D cO e0 mi s) (hS : va_S (Zs s) s.heap H locs) (hA : ∀ q, A q → Zs s q) (hz : z ≤ H.size) (hU : U.heap = H) (hW : s.WarmedH U.vm) : fY D cO A e0 z mi U :=
  ⟨h.ay hS hA hz hU hW, va_Mi.moved hW.alike h.1.2.2.2.2.1, va_Dc.moved hW.alike h.1.2.2.2.2.2⟩
end WFS
def LX (p : Program) (l : Launch) (s : State) (m : MethodId) (c : Code) (b Lx : Nat) (xs : Nat → Int32) (D : va_G) (cI cZ cO cJ : ClassId) (e0 mi : Nat) : Prop :=
  (p.tables.exec = Jvm.exec ∧ c.code = cL_law ∧ c.maxLocals = 7 ∧ s.vm.findClass RL = some m.cls ∧ ∀ w ∈ wsL_law, w.before #[Value.ref b] s = true) ∧ (va_X b Lx xs s s.heap ∧ b < s.heap.size ∧ Lx ≤ 3072) ∧
  (l.stackTraces = false ∧ va_K D vwCl [(cI, .int), (cZ, .boolean), (cO, .object "java/lang/Object")] s ∧ va_K D vwCl [(cJ, .long)] s) ∧ WF D cO e0 mi s
/-- at the loop's head: the class's pool, the model's cells and the answers' row hold the same numbers, apart -/
def LI (D : va_G) (cI cZ cO cJ : ClassId) (z0 e0 x0 m0 ou : Nat) (H : Heap) : Prop :=
  ∃ (F : Nat → Nat → Int32) (ik kp tu : Nat → Int32) (n : Nat) (k : Int32) (ad : Nat → Nat) (w : Nat → Int64) (he gv : Nat → Int32) (gp gb ob nm lo : Int32) (L : List Nat) (f : Nat → va_E) (tg : Nat → Nat) (AD : Nat → Nat → Nat) (mc : Nat → Int32),
    okS F ik kp tu n ∧ (L.Nodup ∧ (∀ a, a ∈ L → z0 ≤ a) ∧ AD 0 0 = x0 ∧ AD 7 0 = e0 ∧ va_P D vwCl (va_pl L f) H ∧ Rep cI cO L f tg AD mc F ik kp tu n he gv gp gb ob nm lo) ∧
    (apD 16 (fun q => z0 ≤ q ∧ q ∉ L ∧ q ≠ ou) ad ∧ ad 0 = m0 ∧ MX D cI cZ ad F ik kp tu n k H) ∧ ou ∉ L ∧ z0 ≤ ou ∧ va_P D vwCl [(ou, lgC cJ w)] H
section LIS
variable {D : va_G} {cI cZ cO cJ : ClassId} {z0 e0 x0 m0 ou : Nat} {H H1 H2 : Heap} {F F' : Nat → Nat → Int32} {ik kp tu ik' kp' tu' : Nat → Int32} {n n' : Nat} {k : Int32} {ad : Nat → Nat} {w w' : Nat → Int64} {L : List Nat} {A : Nat → Prop} {ow mp : Nat → Int32} {nm gb ob : Int32} {g : Nat → Int32}
theorem md_lt (h : va_P D vwCl (mdW cI cZ ad F ow mp nm gb ob ik kp tu g) H) {j : Nat} (hj : j < 16) : ad j < H.size := by
  rcases (show j = 0 ∨ j = 1 ∨ j = 2 ∨ j = 3 ∨ j = 4 ∨ j = 5 ∨ j = 6 ∨ j = 7 ∨ j = 8 ∨ j = 9 ∨ j = 10 ∨ j = 11 ∨ j = 12 ∨ j = 13 ∨ j = 14 ∨ j = 15 by omega) with rfl | rfl | rfl | rfl | rfl | rfl | rfl | rfl | rfl | rfl | rfl | rfl | rfl | rfl | rfl | rfl
  · exact va_at.lt (h 0 _ rfl)
  · exact va_at.lt (h 1 _ rfl)
  · exact va_at.lt (h 2 _ rfl)
  · exact va_at.lt (h 3 _ rfl)
  · exact va_at.lt (h 4 _ rfl)
  · exact va_at.lt (h 5 _ rfl)
  · exact va_at.lt (h 6 _ rfl)
  · exact va_at.lt (h 7 _ rfl)
  · exact va_at.lt (h 8 _ rfl)
  · exact va_at.lt (h 9 _ rfl)
  · exact va_at.lt (h 10 _ rfl)
  · exact va_at.lt (h 11 _ rfl)
  · exact va_at.lt (h 12 _ rfl)
  · exact va_at.lt (h 13 _ rfl)
  · exact va_at.lt (h 14 _ rfl)
  · exact va_at.lt (h 15 _ rfl)
theorem md_kept (had : apD 16 (fun q => z0 ≤ q ∧ q ∉ L ∧ q ≠ ou) ad) (h : va_P D vwCl (mdW cI cZ ad F ow mp nm gb ob ik kp tu g) H) (hk : ∀ q : Nat, q < H.size → ¬ ((q ∈ L ∨ H.size ≤ q) ∨ q = ou) → H1[q]? = H[q]?) : va_P D vwCl (mdW cI cZ ad F ow mp nm gb ob ik kp tu g) H1 :=
  h.kept (fun j q hq => by
    have h9 := (md_D (cI := cI) (cZ := cZ) (F := F) (ow := ow) (mp := mp) (nm := nm) (gb := gb) (ob := ob) (ik := ik) (kp := kp) (tu := tu) (g := g) had).2 j q hq
    have hlt := va_at.lt (h j q hq)
    exact hk q.1 hlt (fun hc => hc.elim (fun hc => hc.elim h9.2.1 (fun hh => absurd hh (Nat.not_le.mpr hlt))) h9.2.2))
theorem ad_self (had : apD 16 A ad) : apD 16 (fun q => ∃ j, j < 16 ∧ q = ad j) ad := ⟨had.1, fun j hj => ⟨j, hj, rfl⟩⟩
theorem LI.step (hLz : ∀ a, a ∈ L → z0 ≤ a) (had : apD 16 (fun q => z0 ≤ q ∧ q ∉ L ∧ q ≠ ou) ad) (h0 : ad 0 = m0) (hadH : ∀ j, j < 16 → ad j < H.size) (hou : ou ∉ L) (houz : z0 ≤ ou) (houH : ou < H.size) (hzH : z0 ≤ H.size)
    (hok : okS F' ik' kp' tu' n') (hC : CX D cI cO (fun q => q ∈ L ∨ H.size ≤ q) x0 e0 F' ik' kp' tu' n' H1) (hPo : va_P D vwCl [(ou, lgC cJ w')] H1) (hM : MX D cI cZ ad F' ik' kp' tu' n' k H2) (hk2 : ∀ q : Nat, q < H1.size → ¬ (∃ j, j < 16 ∧ q = ad j) → H2[q]? = H1[q]?) : LI D cI cZ cO cJ z0 e0 x0 m0 ou H2 := by
  obtain ⟨he, gv, gp, gb, ob, nm, lo, L9, f9, tg9, AD9, mc9, hL9, hA9, hx9, he9, hP9, hR9⟩ := hC
  have hna : ∀ a, a ∈ L9 → ¬ ∃ j, j < 16 ∧ a = ad j := fun a ha ⟨j, hj, e⟩ => by
    rcases hA9 a ha with h | h
    · exact (had.2 j hj).2.1 (by rw [← e]; exact h)
    · have := hadH j hj
      omega
  have hou9 : ou ∉ L9 := fun hh => (hA9 ou hh).elim hou (fun h => by omega)
  have hno : ¬ ∃ j, j < 16 ∧ ou = ad j := fun ⟨j, hj, e⟩ => (had.2 j hj).2.2 e.symm
  refine ⟨F', ik', kp', tu', n', k, ad, w', he, gv, gp, gb, ob, nm, lo, L9, f9, tg9, AD9, mc9, hok, ⟨hL9, fun a ha => ?_, hx9, he9, hP9.kept (fun j q hq => hk2 q.1 (va_at.lt (hP9 j q hq)) (hna _ (pl_mem hq))), hR9⟩, ⟨⟨had.1, fun j hj => ⟨(had.2 j hj).1, fun hh => hna _ hh ⟨j, hj, rfl⟩, (had.2 j hj).2.2⟩⟩, h0, hM⟩, hou9, houz, hPo.kept (fun j q hq => hk2 q.1 (va_at.lt (hPo j q hq)) (by
    have hm := List.mem_of_getElem? hq
    rw [List.mem_singleton] at hm
    rw [hm]; exact hno))⟩
  rcases hA9 a ha with h | h
  · exact hLz a h
  · omega
end LIS
/-! rows of the law's walk -/
section LWR
variable {p : Program} {l : Launch} {e : Env} {R : Room} {s : State} {m : MethodId} {args : Array Value} {below : List Frame} {meth : Method} {c : Code} {H : Heap} {locs : List Loc} {cells slots : Nat} {Q : State → Prop}
variable {cc : ByteArray} {pc : Nat} {ls : Array Slot} {rest : List Value} {D : va_G} {cl : List vw_C} {A : Nat → Prop} {tys : List (ClassId × FieldType)} {ws : va_W} {H0 : Heap}
theorem ld_l (hx : p.tables.exec = Jvm.exec) (hb : c.code = cc) (hK : va_K D cl tys s) (hP : va_P D cl ws H) (q0 t0 : Nat) {cA : ClassId} {n b : Nat} {f : Nat → Int64} (ha : ws[q0]? = some (b, .inl (cA, n, .inr (.inl f)))) (ht : tys[t0]? = some (cA, .long)) {k : Nat} (hk : k < n) (hn : n < 2 ^ 31) (hdg : decode cc pc = .ok (.laload, 1))
    (kk : W p l e R s m args below meth c H locs cells slots Q (F0 m (pc + 1) ls (.long (f k) :: rest))) : W p l e R s m args below meth c H locs cells slots Q (F0 m pc ls (.int (nI k) :: .ref b :: rest)) := by
  refine va_lald hx hb hK hP q0 t0 ha ht (vp_in_nI hk hn) hdg ?_
  rw [nI_clamp (by omega)]; exact kk
theorem ld_s (hx : p.tables.exec = Jvm.exec) (hb : c.code = cc) {b L : Nat} {xs : Nat → Int32} (hX : va_X b L xs s H0) (hbl : b < H0.size) (hbA : ¬ A b) (hS : va_S A H0 H locs) {k : Nat} (hk : k < L) (hL : L < 2 ^ 31) (hdg : decode cc pc = .ok (.iaload, 1))
    (kk : W p l e R s m args below meth c H locs cells slots Q (F0 m (pc + 1) ls (.int (xs k) :: rest))) : W p l e R s m args below meth c H locs cells slots Q (F0 m pc ls (.int (nI k) :: .ref b :: rest)) := by
  refine va_sld hx hb hX hbl hbA hS (vp_in_nI hk hL) hdg ?_
  rw [nI_clamp (by omega)]; exact kk
theorem top_el {x y : Int64} (h : x = y) (k : W p l e R s m args below meth c H locs cells slots Q (F0 m pc ls (.long y :: rest))) : W p l e R s m args below meth c H locs cells slots Q (F0 m pc ls (.long x :: rest)) := by
  rw [h]; exact k
end LWR
theorem lg_self (x : Int64) : lg_cmp x x = 0 := by simp [lg_cmp]
theorem nz_t {v : Int32} (h : v = 0) : (0 : Int32) = b2i (!decide (v = 0)) := by rw [decide_eq_true h]; rfl
theorem nz_f {v : Int32} (h : ¬ v = 0) : (1 : Int32) = b2i (!decide (v = 0)) := by rw [decide_eq_false h]; rfl
