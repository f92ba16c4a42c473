/-! the class as the law sees it: the pool of cells holds the numbers -/
def CX (D : va_G) (cI cO : ClassId) (A : Nat → Prop) (x0 e0 : Nat) (F : Nat → Nat → Int32) (ik kp tu : Nat → Int32) (n : Nat) (H : Heap) : Prop :=
  ∃ (he gv : Nat → Int32) (gp gb ob nm lo : Int32) (L : List Nat) (f : Nat → va_E) (tg : Nat → Nat) (AD : Nat → Nat → Nat) (mc : Nat → Int32), L.Nodup ∧ (∀ a, a ∈ L → A a) ∧ AD 0 0 = x0 ∧ AD 7 0 = e0 ∧ va_P D vwCl (va_pl L f) H ∧ Rep cI cO L f tg AD mc F ik kp tu n he gv gp gb ob nm lo
def LE (D : va_G) (cI cZ cO : ClassId) (A : Nat → Prop) (e0 z mi : Nat) (U : State) : Prop := va_K D vwCl [(cI, .int), (cI, .int), (cO, .object "java/lang/Object")] U ∧ NW U ∧ fY D cO A e0 z mi U
def LW (D : va_G) (cI cZ cO : ClassId) (A : Nat → Prop) (x0 e0 z mi : Nat) (F : Nat → Nat → Int32) (ik kp tu : Nat → Int32) (n : Nat) (U : State) : Prop := CX D cI cO A x0 e0 F ik kp tu n U.heap ∧ LE D cI cZ cO A e0 z mi U
section XL
variable {l : Launch} {y9 : MethodName} {ws : List Cond} {rm : Room} {D : va_G} {cI cZ cO : ClassId} {A : Nat → Prop} {x0 e0 z mi : Nat} {F F' : Nat → Nat → Int32} {ik kp tu ik' kp' tu' : Nat → Int32} {n n' : Nat} {H : Heap} {locs : List Loc} {s U : State} {av : List Value} {v : Int32} {po : Int32 → Prop} {c9 s9 : Nat}
variable {L : List Nat} {f : Nat → va_E} {tg tg' : Nat → Nat} {AD AD' : Nat → Nat → Nat} {mc mc' : Nat → Int32} {he gv he' gv' : Nat → Int32} {gp gb ob nm lo gp' gb' ob' nm' lo' : Int32}
theorem fY.next (h : fY D cO A e0 z mi s) (hS : va_S A s.heap H locs) (hU : U.heap = H) (hW : s.WarmedH U.vm) : fY D cO A e0 z mi U := by
  obtain ⟨⟨h1, h2, h3, h4, h5⟩, h6, h7⟩ := h
  exact ⟨⟨h1.move hW, va_AO.moved hW.alike h2, by rw [hU]; exact va_T.moved hW.alike (va_T.kept h3 hS.2.1), by rw [hU]; exact va_Z.moved hW.alike (va_Z.kept h4 hS.2.1), by rw [hU]; exact Nat.le_trans h5 hS.1⟩, va_Mi.moved hW.alike h6, va_Dc.moved hW.alike h7⟩
theorem LW.mk2 (hE : LE D cI cZ cO A e0 z mi s) (hS : va_S A s.heap H locs) (hC : CX D cI cO A x0 e0 F ik kp tu n H) : ∀ U : State, U.heap = H → s.WarmedH U.vm → LW D cI cZ cO A x0 e0 z mi F ik kp tu n U :=
  fun U hU hW => ⟨by rw [hU]; exact hC, va_K.moved hW.alike hE.1, hE.2.1.warm hW, hE.2.2.next hS hU hW⟩
theorem LW.blind : FrameBlind (va_Pc av (LW D cI cZ cO A x0 e0 z mi F ik kp tu n)) := by
  intro a U g mk h
  exact ⟨h.1, LW.mk2 (s := U) (H := U.heap) (locs := []) h.2.2 va_S.rf h.2.1 (U.calling g mk a) rfl (State.WarmedH.refl U)⟩
theorem CX.recv (h : CX D cI cO A x0 e0 F ik kp tu n H) (hK : va_K D vwCl [(cI, .int), (cI, .int), (cO, .object "java/lang/Object")] s) : ∃ cell : Cell, H[x0]? = some cell ∧ cell.vm.isStatics = false ∧ s.vm.findClass RX4 = some cell.cls := by
  obtain ⟨he, gv, gp, gb, ob, nm, lo, L, f, tg, AD, mc, h1, h2, rfl, h4, hP, hR⟩ := h
  obtain ⟨k5, e5⟩ := hR.x.at
  exact va_recv hK hP (ci := 5) (q0 := k5) rfl e5
/-- a call of the class: its answer, and what the pool holds behind it -/
def XC (l : Launch) (y9 : MethodName) (ws : List Cond) (rm : Room) (D : va_G) (cI cZ cO : ClassId) (A : Nat → Prop) (x0 e0 z mi : Nat) (av : List Value) (v : Int32) (F : Nat → Nat → Int32) (ik kp tu : Nat → Int32) (n : Nat) (F' : Nat → Nat → Int32) (ik' kp' tu' : Nat → Int32) (n' c9 s9 : Nat) : Prop :=
  Met l y9 ws rm (va_Pc av (LW D cI cZ cO A x0 e0 z mi F ik kp tu n)) (va_Qi (fun (r : Int32) (_ : Unit) => r = v) (fun _ t => CX D cI cO A x0 e0 F' ik' kp' tu' n' t.heap) A) c9 s9 A
/-- the same with what its answer fulfils -/
def XP (l : Launch) (y9 : MethodName) (ws : List Cond) (rm : Room) (D : va_G) (cI cZ cO : ClassId) (A : Nat → Prop) (x0 e0 z mi : Nat) (av : List Value) (po : Int32 → Prop) (F : Nat → Nat → Int32) (ik kp tu : Nat → Int32) (n : Nat) (F' : Nat → Nat → Int32) (ik' kp' tu' : Nat → Int32) (n' c9 s9 : Nat) : Prop :=
  Met l y9 ws rm (va_Pc av (LW D cI cZ cO A x0 e0 z mi F ik kp tu n)) (va_Qi (fun (r : Int32) (_ : Unit) => po r) (fun _ t => CX D cI cO A x0 e0 F' ik' kp' tu' n' t.heap) A) c9 s9 A
theorem lw_of (h : ∀ (he gv : Nat → Int32) (gp gb ob nm lo : Int32) (L : List Nat) (f : Nat → va_E) (tg : Nat → Nat) (AD : Nat → Nat → Nat) (mc : Nat → Int32), L.Nodup → (∀ a, a ∈ L → A a) → AD 0 0 = x0 → AD 7 0 = e0 → Rep cI cO L f tg AD mc F ik kp tu n he gv gp gb ob nm lo → Met l y9 ws rm (va_Pc av (fun U => rdP D [(cI, .int), (cI, .int), (cO, .object "java/lang/Object")] (va_pl L f) U ∧ fY D cO A e0 z mi U)) (va_Qi (fun (r : Int32) (_ : Unit) => po r) (fun _ t => CX D cI cO A x0 e0 F' ik' kp' tu' n' t.heap) A) c9 s9 A) : XP l y9 ws rm D cI cZ cO A x0 e0 z mi av po F ik kp tu n F' ik' kp' tu' n' c9 s9 := by
  intro p e ha hc hk s m args below hf happ hp ht
  obtain ⟨e1, ⟨he, gv, gp, gb, ob, nm, lo, L, f, tg, AD, mc, h1, h2, h3, h4, hP, hR⟩, hK, hN, hY⟩ := hp
  exact h he gv gp gb ob nm lo L f tg AD mc h1 h2 h3 h4 hR p e ha hc hk s m args below hf happ ⟨e1, ⟨hP, hK, hN⟩, hY⟩ ht
theorem cx_PB {t : State} (hL : L.Nodup) (hA : ∀ a, a ∈ L → A a) (h1 : AD 0 0 = x0) (h2 : AD 7 0 = e0) (h : PB D cI cO L tg AD mc F ik kp tu n he gv gp gb ob nm lo t) : CX D cI cO A x0 e0 F ik kp tu n t.heap := by
  obtain ⟨f9, hP, hR⟩ := h
  exact ⟨he, gv, gp, gb, ob, nm, lo, L, f9, tg, AD, mc, hL, hA, h1, h2, hP, hR⟩
theorem cx_PX {t : State} (h : PX D cI cO A x0 e0 F ik kp tu n he gv gp gb ob nm lo t) : CX D cI cO A x0 e0 F ik kp tu n t.heap := by
  obtain ⟨L9, tg9, AD9, mc9, h1, h2, h3, h4, f9, hP, hR⟩ := h
  exact ⟨he, gv, gp, gb, ob, nm, lo, L9, f9, tg9, AD9, mc9, h1, h2, h3, h4, hP, hR⟩
theorem c_read (hM : Met l y9 ws rm (va_Pc av (rdP D [(cI, .int), (cI, .int), (cO, .object "java/lang/Object")] (va_pl L f))) (vp_Si (fun r => r = v)) 0 0 (fun _ => False)) (hL : L.Nodup) (hA : ∀ a, a ∈ L → A a) (h1 : AD 0 0 = x0) (h2 : AD 7 0 = e0) (hR : Rep cI cO L f tg AD mc F ik kp tu n he gv gp gb ob nm lo) : Met l y9 ws rm (va_Pc av (fun U => rdP D [(cI, .int), (cI, .int), (cO, .object "java/lang/Object")] (va_pl L f) U ∧ fY D cO A e0 z mi U)) (va_Qi (fun (r : Int32) (_ : Unit) => r = v) (fun _ t => CX D cI cO A x0 e0 F ik kp tu n t.heap) A) 0 0 A :=
  met_w hM (fun _ _ h => ⟨h.1, h.2.1⟩) (fun a st o t hp hq => by
    obtain ⟨r, e1, e2, e3⟩ := hq
    exact ⟨⟨r, (), e1, e2, (show CX D cI cO A x0 e0 F ik kp tu n t.heap from by rw [e3]; exact ⟨he, gv, gp, gb, ob, nm, lo, L, f, tg, AD, mc, hL, hA, h1, h2, hp.2.1.1, hR⟩)⟩, by rw [e3]; exact Nat.le_refl _, fun q _ _ => by rw [e3]⟩) (fun _ h => h.elim)
theorem c_wr (hM : Met l y9 ws rm (va_Pc av (rdP D [(cI, .int), (cI, .int), (cO, .object "java/lang/Object")] (va_pl L f))) (va_Qi (fun (r : Int32) (_ : Unit) => r = v) (fun _ t => PB D cI cO L tg AD mc F ik kp tu n he gv gp gb ob nm lo t) A) 0 0 A) (hL : L.Nodup) (hA : ∀ a, a ∈ L → A a) (h1 : AD 0 0 = x0) (h2 : AD 7 0 = e0) : Met l y9 ws rm (va_Pc av (fun U => rdP D [(cI, .int), (cI, .int), (cO, .object "java/lang/Object")] (va_pl L f) U ∧ fY D cO A e0 z mi U)) (va_Qi (fun (r : Int32) (_ : Unit) => r = v) (fun _ t => CX D cI cO A x0 e0 F ik kp tu n t.heap) A) 0 0 A :=
  met_w hM (fun _ _ h => ⟨h.1, h.2.1⟩) (fun a st o t _ hq => by
    obtain ⟨⟨r, u, e1, e2, e3⟩, hF⟩ := hq
    exact ⟨⟨r, u, e1, e2, cx_PB hL hA h1 h2 e3⟩, hF⟩) (fun _ h => h)
theorem c_wrC (hM : Met l y9 ws rm (va_Pc av (rdY D [(cI, .int), (cI, .int), (cO, .object "java/lang/Object")] (va_pl L f) CO)) (va_Qi (fun (r : Int32) (_ : Unit) => r = v) (fun _ t => PB D cI cO L tg AD mc F ik kp tu n he gv gp gb ob nm lo t) A) 0 0 A) (hL : L.Nodup) (hA : ∀ a, a ∈ L → A a) (h1 : AD 0 0 = x0) (h2 : AD 7 0 = e0) : Met l y9 ws rm (va_Pc av (fun U => rdP D [(cI, .int), (cI, .int), (cO, .object "java/lang/Object")] (va_pl L f) U ∧ fY D cO A e0 z mi U)) (va_Qi (fun (r : Int32) (_ : Unit) => r = v) (fun _ t => CX D cI cO A x0 e0 F ik kp tu n t.heap) A) 0 0 A :=
  met_w hM (fun _ _ h => ⟨h.1, h.2.1, h.2.2.1.1⟩) (fun a st o t _ hq => by
    obtain ⟨⟨r, u, e1, e2, e3⟩, hF⟩ := hq
    exact ⟨⟨r, u, e1, e2, cx_PB hL hA h1 h2 e3⟩, hF⟩) (fun _ h => h)
theorem c_pxA (hM : Met l y9 ws rm (va_Pc av (rdY D [(cI, .int), (cI, .int), (cO, .object "java/lang/Object")] (va_pl L f) (aY D cO A e0 z))) (va_Qi (fun (r : Int32) (_ : Unit) => r = v) (fun _ t => PX D cI cO A x0 e0 F ik kp tu n he gv gp gb ob nm lo t) A) c9 s9 A) : Met l y9 ws rm (va_Pc av (fun U => rdP D [(cI, .int), (cI, .int), (cO, .object "java/lang/Object")] (va_pl L f) U ∧ fY D cO A e0 z mi U)) (va_Qi (fun (r : Int32) (_ : Unit) => r = v) (fun _ t => CX D cI cO A x0 e0 F ik kp tu n t.heap) A) c9 s9 A :=
  met_w hM (fun _ _ h => ⟨h.1, h.2.1, h.2.2.1⟩) (fun a st o t _ hq => by
    obtain ⟨⟨r, u, e1, e2, e3⟩, hF⟩ := hq
    exact ⟨⟨r, u, e1, e2, cx_PX e3⟩, hF⟩) (fun _ h => h)
theorem c_pxF (hM : Met l y9 ws rm (va_Pc av (rdY D [(cI, .int), (cI, .int), (cO, .object "java/lang/Object")] (va_pl L f) (fY D cO A e0 z mi))) (va_Qi (fun (r : Int32) (_ : Unit) => r = v) (fun _ t => PX D cI cO A x0 e0 F ik kp tu n he gv gp gb ob nm lo t) A) c9 s9 A) : Met l y9 ws rm (va_Pc av (fun U => rdP D [(cI, .int), (cI, .int), (cO, .object "java/lang/Object")] (va_pl L f) U ∧ fY D cO A e0 z mi U)) (va_Qi (fun (r : Int32) (_ : Unit) => r = v) (fun _ t => CX D cI cO A x0 e0 F ik kp tu n t.heap) A) c9 s9 A :=
  met_w hM (fun _ _ h => h) (fun a st o t _ hq => by
    obtain ⟨⟨r, u, e1, e2, e3⟩, hF⟩ := hq
    exact ⟨⟨r, u, e1, e2, cx_PX e3⟩, hF⟩) (fun _ h => h)
theorem c_wrP (hM : Met l y9 ws rm (va_Pc av (rdP D [(cI, .int), (cI, .int), (cO, .object "java/lang/Object")] (va_pl L f))) (va_Qi (fun (r : Int32) (_ : Unit) => r = v) (fun _ t => PB D cI cO L tg AD mc F ik kp tu n he gv gp gb ob nm lo t) A) 0 0 A) (hL : L.Nodup) (hA : ∀ a, a ∈ L → A a) (h1 : AD 0 0 = x0) (h2 : AD 7 0 = e0) (hv : po v) : Met l y9 ws rm (va_Pc av (fun U => rdP D [(cI, .int), (cI, .int), (cO, .object "java/lang/Object")] (va_pl L f) U ∧ fY D cO A e0 z mi U)) (va_Qi (fun (r : Int32) (_ : Unit) => po r) (fun _ t => CX D cI cO A x0 e0 F ik kp tu n t.heap) A) 0 0 A :=
  met_w hM (fun _ _ h => ⟨h.1, h.2.1⟩) (fun a st o t _ hq => by
    obtain ⟨⟨r, u, e1, e2, e3⟩, hF⟩ := hq
    exact ⟨⟨r, u, e1, by rw [e2]; exact hv, cx_PB hL hA h1 h2 e3⟩, hF⟩) (fun _ h => h)
end XL
set_option maxHeartbeats 800000 in
theorem xc_folders (l : Launch) (D : va_G) (cI cZ cO : ClassId) {A : Nat → Prop} {x0 e0 z mi : Nat} {F : Nat → Nat → Int32} {ik kp tu : Nat → Int32} {n : Nat} (hok : okS F ik kp tu n)   : XC l yX4_folders wsX4_folders (rmr 1 20) D cI cZ cO A x0 e0 z mi [.ref x0] (nI n) F ik kp tu n F ik kp tu n 0 0 := by
  obtain ⟨hM, hE, hB, hw6, hZ⟩ := hok
  refine lw_of (fun he gv gp gb ob nm lo L f tg AD mc hL hA h1 h2 hR => ?_)
  subst h1; subst h2
  exact c_read (k_X4_folders l D cI cZ cO hR) hL hA rfl rfl hR
set_option maxHeartbeats 800000 in
theorem xc_members (l : Launch) (D : va_G) (cI cZ cO : ClassId) {A : Nat → Prop} {x0 e0 z mi : Nat} {F : Nat → Nat → Int32} {ik kp tu : Nat → Int32} {n : Nat} (hok : okS F ik kp tu n) (x : Nat) (hx6 : x < 6) : XC l yX4_members wsX4_members (rmr 1 21) D cI cZ cO A x0 e0 z mi [.ref x0, .int (nI x)] (mMem F x) F ik kp tu n F ik kp tu n 0 0 := by
  obtain ⟨hM, hE, hB, hw6, hZ⟩ := hok
  refine lw_of (fun he gv gp gb ob nm lo L f tg AD mc hL hA h1 h2 hR => ?_)
  subst h1; subst h2
  exact c_read (k_X4_members l D cI cZ cO hR x hx6) hL hA rfl rfl hR
set_option maxHeartbeats 800000 in
theorem xc_setMember (l : Launch) (D : va_G) (cI cZ cO : ClassId) {A : Nat → Prop} {x0 e0 z mi : Nat} {F : Nat → Nat → Int32} {ik kp tu : Nat → Int32} {n : Nat} (hok : okS F ik kp tu n) (x : Nat) (y : Nat) (b : Bool) (hx6 : x < 6) (hy8 : y < 8) : XC l yX4_setMember wsX4_setMember (rmr 4 93) D cI cZ cO A x0 e0 z mi [.ref x0, .int (nI x), .int (nI y), .int (b2i b)] (b2i (hasB (F 1 x) (nI y))) F ik kp tu n (va_up F 1 (upd (F 1) x (if b = true then F 1 x ||| ((1 : Int32) <<< (nI y &&& 31)) else F 1 x &&& (((1 : Int32) <<< (nI y &&& 31)) ^^^ (-1))))) ik kp tu n 0 0 := by
  obtain ⟨hM, hE, hB, hw6, hZ⟩ := hok
  refine lw_of (fun he gv gp gb ob nm lo L f tg AD mc hL hA h1 h2 hR => ?_)
  subst h1; subst h2
  exact c_wr (k_X4_setMember l D cI cZ cO hR A hL hA x y b hx6 hy8 hw6) hL hA rfl rfl
set_option maxHeartbeats 800000 in
theorem xc_nest (l : Launch) (D : va_G) (cI cZ cO : ClassId) {A : Nat → Prop} {x0 e0 z mi : Nat} {F : Nat → Nat → Int32} {ik kp tu : Nat → Int32} {n : Nat} (hok : okS F ik kp tu n) (x : Nat) (y : Nat) (hx6 : x < 6) (hy6 : y < 6) (hc : hasB (cRch (F 2) y) (nI x) = false) : XC l yX4_nest wsX4_nest (rmr 4 91) D cI cZ cO A x0 e0 z mi [.ref x0, .int (nI x), .int (nI y)] (b2i (hasB (F 2 x ^^^ ((1 : Int32) <<< (nI y &&& 31))) (nI y))) F ik kp tu n (va_up F 2 (upd (F 2) x (F 2 x ^^^ ((1 : Int32) <<< (nI y &&& 31))))) ik kp tu n 0 0 := by
  obtain ⟨hM, hE, hB, hw6, hZ⟩ := hok
  refine lw_of (fun he gv gp gb ob nm lo L f tg AD mc hL hA h1 h2 hR => ?_)
  subst h1; subst h2
  exact c_wr (k_X4_nest l D cI cZ cO hR A hL hA x y hx6 hy6 hw6 hc) hL hA rfl rfl
set_option maxHeartbeats 800000 in
theorem xc_addFolder (l : Launch) (D : va_G) (cI cZ cO : ClassId) {A : Nat → Prop} {x0 e0 z mi : Nat} {F : Nat → Nat → Int32} {ik kp tu : Nat → Int32} {n : Nat} (hok : okS F ik kp tu n) (x : Nat) (y : Nat) (hx : x < n) (hy8 : y < 8) (hn20 : n < 20) (hAz : ∀ q, z ≤ q → A q) (hne : ¬ A e0) : XC l yX4_addFolder wsX4_addFolder (rmf 8 250) D cI cZ cO A x0 e0 z mi [.ref x0, .int (nI x), .int (nI y)] (nI n) F ik kp tu n (va_up (va_up (va_up F 3 (upd (F 3) n (nI x))) 4 (upd (F 4) n (nI y))) 5 (upd (F 5) n 1)) ik kp tu (n + 1) 4 40 := by
  obtain ⟨hM, hE, hB, hw6, hZ⟩ := hok
  refine lw_of (fun he gv gp gb ob nm lo L f tg AD mc hL hA h1 h2 hR => ?_)
  subst h1; subst h2
  exact c_pxF (k_X4_addFolder l D cI cZ cO hR A hL hA x y hM hx hy8 hn20 (hZ n (Nat.le_refl _)) z hAz hne mi)
set_option maxHeartbeats 800000 in
theorem xc_setOwner (l : Launch) (D : va_G) (cI cZ cO : ClassId) {A : Nat → Prop} {x0 e0 z mi : Nat} {F : Nat → Nat → Int32} {ik kp tu : Nat → Int32} {n : Nat} (hok : okS F ik kp tu n) (x : Nat) (y : Nat) (hx : x < n) (hy8 : y < 8) : XC l yX4_setOwner wsX4_setOwner (rmr 4 85) D cI cZ cO A x0 e0 z mi [.ref x0, .int (nI x), .int (nI y)] (F 4 x) F ik kp tu n (va_up F 4 (upd (F 4) x (nI y))) ik kp tu n 0 0 := by
  obtain ⟨hM, hE, hB, hw6, hZ⟩ := hok
  refine lw_of (fun he gv gp gb ob nm lo L f tg AD mc hL hA h1 h2 hR => ?_)
  subst h1; subst h2
  exact c_wr (k_X4_setOwner l D cI cZ cO hR A hL hA x y hx hy8) hL hA rfl rfl
set_option maxHeartbeats 800000 in
theorem xc_setInherits (l : Launch) (D : va_G) (cI cZ cO : ClassId) {A : Nat → Prop} {x0 e0 z mi : Nat} {F : Nat → Nat → Int32} {ik kp tu : Nat → Int32} {n : Nat} (hok : okS F ik kp tu n) (x : Nat) (b : Bool) (hx : x < n) : XC l yX4_setInherits wsX4_setInherits (rmr 4 85) D cI cZ cO A x0 e0 z mi [.ref x0, .int (nI x), .int (b2i b)] (b2i (toB (F 5 x))) F ik kp tu n (va_up F 5 (upd (F 5) x (b2i b))) ik kp tu n 0 0 := by
  obtain ⟨hM, hE, hB, hw6, hZ⟩ := hok
  refine lw_of (fun he gv gp gb ob nm lo L f tg AD mc hL hA h1 h2 hR => ?_)
  subst h1; subst h2
  exact c_wr (k_X4_setInherits l D cI cZ cO hR A hL hA x b hx hB) hL hA rfl rfl
set_option maxHeartbeats 800000 in
theorem xc_allow (l : Launch) (D : va_G) (cI cZ cO : ClassId) {A : Nat → Prop} {x0 e0 z mi : Nat} {F : Nat → Nat → Int32} {ik kp tu : Nat → Int32} {n : Nat} (hok : okS F ik kp tu n) (x : Nat) (w : Nat) (b : Bool) (r : Int32) (sc : Int32) (hx : x < n) (hw : w < 14) (hr7 : inB r 1 7 = true) (hs2 : inB sc 0 2 = true) (hl6 : i2n (F 6 x) < 6) (hAz : ∀ q, z ≤ q → A q) (hne : ¬ A e0) : XC l yX4_allow wsX4_allow (rmb 7 190) D cI cZ cO A x0 e0 z mi [.ref x0, .int (nI x), .int (nI w), .int (b2i b), .int r, .int sc] (nI (i2n (F 6 x) + 1)) F ik kp tu n (va_up (va_up (va_up (va_up (va_up F 6 (upd (F 6) x (nI (i2n (F 6 x) + 1)))) 7 (upd (F 7) (6 * x + i2n (F 6 x)) (nI w))) 8 (upd (F 8) (6 * x + i2n (F 6 x)) (b2i b))) 9 (upd (F 9) (6 * x + i2n (F 6 x)) r)) 10 (upd (F 10) (6 * x + i2n (F 6 x)) sc)) ik kp tu n 2 26 := by
  obtain ⟨hM, hE, hB, hw6, hZ⟩ := hok
  refine lw_of (fun he gv gp gb ob nm lo L f tg AD mc hL hA h1 h2 hR => ?_)
  subst h1; subst h2
  exact c_pxA (k_X4_allow l D cI cZ cO hR A hL hA x w b r sc hM hx hw hr7 hs2 hl6 z hAz hne)
set_option maxHeartbeats 800000 in
theorem xc_drop (l : Launch) (D : va_G) (cI cZ cO : ClassId) {A : Nat → Prop} {x0 e0 z mi : Nat} {F : Nat → Nat → Int32} {ik kp tu : Nat → Int32} {n : Nat} (hok : okS F ik kp tu n) (x : Nat) (y : Nat) (hx : x < n) (hy : y < i2n (F 6 x)) : XC l yX4_drop wsX4_drop (rmr 4 106) D cI cZ cO A x0 e0 z mi [.ref x0, .int (nI x), .int (nI y)] (F 9 (6 * x + y)) F ik kp tu n (va_up (va_up (va_up (va_up (va_up F 6 (upd (F 6) x (nI (i2n (F 6 x) - 1)))) 7 (shl (F 7) (6 * x + y) (i2n (F 6 x) - 1 - y))) 8 (shl (F 8) (6 * x + y) (i2n (F 6 x) - 1 - y))) 9 (shl (F 9) (6 * x + y) (i2n (F 6 x) - 1 - y))) 10 (shl (F 10) (6 * x + y) (i2n (F 6 x) - 1 - y))) ik kp tu n 0 0 := by
  obtain ⟨hM, hE, hB, hw6, hZ⟩ := hok
  refine lw_of (fun he gv gp gb ob nm lo L f tg AD mc hL hA h1 h2 hR => ?_)
  subst h1; subst h2
  exact c_wrC (k_X4_drop l D cI cZ cO hR A hL hA x y hM hx hy) hL hA (by rw [rmAD_ne (by decide)]) (by rw [rmAD_ne (by decide)])
set_option maxHeartbeats 800000 in
theorem xc_rights (l : Launch) (D : va_G) (cI cZ cO : ClassId) {A : Nat → Prop} {x0 e0 z mi : Nat} {F : Nat → Nat → Int32} {ik kp tu : Nat → Int32} {n : Nat} (hok : okS F ik kp tu n) (x : Nat) (y : Nat) (hx8 : x < 8) (hy : y < n) : XC l yX4_rights wsX4_rights (rmr 4 91) D cI cZ cO A x0 e0 z mi [.ref x0, .int (nI x), .int (nI y)] (mRights F x y) F ik kp tu n F ik kp tu n 0 0 := by
  obtain ⟨hM, hE, hB, hw6, hZ⟩ := hok
  refine lw_of (fun he gv gp gb ob nm lo L f tg AD mc hL hA h1 h2 hR => ?_)
  subst h1; subst h2
  exact c_read (k_X4_rights l D cI cZ cO hR x y hM hE hy hx8) hL hA rfl rfl hR
set_option maxHeartbeats 800000 in
theorem xc_rightsBackwards (l : Launch) (D : va_G) (cI cZ cO : ClassId) {A : Nat → Prop} {x0 e0 z mi : Nat} {F : Nat → Nat → Int32} {ik kp tu : Nat → Int32} {n : Nat} (hok : okS F ik kp tu n) (x : Nat) (y : Nat) (hx8 : x < 8) (hy : y < n) : XC l yX4_rightsBackwards wsX4_rightsBackwards (rmr 4 91) D cI cZ cO A x0 e0 z mi [.ref x0, .int (nI x), .int (nI y)] (mRights F x y) F ik kp tu n F ik kp tu n 0 0 := by
  obtain ⟨hM, hE, hB, hw6, hZ⟩ := hok
  refine lw_of (fun he gv gp gb ob nm lo L f tg AD mc hL hA h1 h2 hR => ?_)
  subst h1; subst h2
  exact c_read (k_X4_rightsBackwards l D cI cZ cO hR x y hM hE hy hx8) hL hA rfl rfl hR
set_option maxHeartbeats 800000 in
theorem xc_rightsNow (l : Launch) (D : va_G) (cI cZ cO : ClassId) {A : Nat → Prop} {x0 e0 z mi : Nat} {F : Nat → Nat → Int32} {ik kp tu : Nat → Int32} {n : Nat} (hok : okS F ik kp tu n) (x : Nat) (y : Nat) (hx8 : x < 8) (hy : y < n) : XC l yX4_rightsNow wsX4_rightsNow (rmr 5 113) D cI cZ cO A x0 e0 z mi [.ref x0, .int (nI x), .int (nI y)] (mNow F kp tu x y) F ik kp tu n F ik kp tu n 0 0 := by
  obtain ⟨hM, hE, hB, hw6, hZ⟩ := hok
  refine lw_of (fun he gv gp gb ob nm lo L f tg AD mc hL hA h1 h2 hR => ?_)
  subst h1; subst h2
  exact c_read (k_X4_rightsNow l D cI cZ cO hR x y hM hE hy hx8) hL hA rfl rfl hR
set_option maxHeartbeats 800000 in
theorem xc_gainers (l : Launch) (D : va_G) (cI cZ cO : ClassId) {A : Nat → Prop} {x0 e0 z mi : Nat} {F : Nat → Nat → Int32} {ik kp tu : Nat → Int32} {n : Nat} (hok : okS F ik kp tu n) (x : Nat) (hx : x < n) : XC l yX4_gainers wsX4_gainers (rmr 5 113) D cI cZ cO A x0 e0 z mi [.ref x0, .int (nI x)] (gnr F kp tu x 8) F ik kp tu n F ik kp tu n 0 0 := by
  obtain ⟨hM, hE, hB, hw6, hZ⟩ := hok
  refine lw_of (fun he gv gp gb ob nm lo L f tg AD mc hL hA h1 h2 hR => ?_)
  subst h1; subst h2
  exact c_read (k_X4_gainers l D cI cZ cO hR x hM hE hx) hL hA rfl rfl hR
set_option maxHeartbeats 800000 in
theorem xc_mapped (l : Launch) (D : va_G) (cI cZ cO : ClassId) {A : Nat → Prop} {x0 e0 z mi : Nat} {F : Nat → Nat → Int32} {ik kp tu : Nat → Int32} {n : Nat} (hok : okS F ik kp tu n) (x : Nat) (y : Nat) (hx8 : x < 8) (hy : y < n) : XC l yX4_mapped wsX4_mapped (rmr 6 139) D cI cZ cO A x0 e0 z mi [.ref x0, .int (nI x), .int (nI y)] (mV F o0 y (mBest F o0 y) x) F ik kp tu n F ik kp tu n 0 0 := by
  obtain ⟨hM, hE, hB, hw6, hZ⟩ := hok
  refine lw_of (fun he gv gp gb ob nm lo L f tg AD mc hL hA h1 h2 hR => ?_)
  subst h1; subst h2
  exact c_wr (k_X4_mapped l D cI cZ cO hR A hL hA x y hM hE hy hx8) hL hA rfl rfl
set_option maxHeartbeats 800000 in
theorem xc_groupOf (l : Launch) (D : va_G) (cI cZ cO : ClassId) {A : Nat → Prop} {x0 e0 z mi : Nat} {F : Nat → Nat → Int32} {ik kp tu : Nat → Int32} {n : Nat} (hok : okS F ik kp tu n) (x : Nat) (hx : x < n) : XC l yX4_groupOf wsX4_groupOf (rmr 6 139) D cI cZ cO A x0 e0 z mi [.ref x0, .int (nI x)] (mBest F o0 x) F ik kp tu n F ik kp tu n 0 0 := by
  obtain ⟨hM, hE, hB, hw6, hZ⟩ := hok
  refine lw_of (fun he gv gp gb ob nm lo L f tg AD mc hL hA h1 h2 hR => ?_)
  subst h1; subst h2
  exact c_wr (k_X4_groupOf l D cI cZ cO hR A hL hA x hM hE hx) hL hA rfl rfl
set_option maxHeartbeats 800000 in
theorem xc_named (l : Launch) (D : va_G) (cI cZ cO : ClassId) {A : Nat → Prop} {x0 e0 z mi : Nat} {F : Nat → Nat → Int32} {ik kp tu : Nat → Int32} {n : Nat} (hok : okS F ik kp tu n) (x : Nat) (hx : x < n) : XC l yX4_named wsX4_named (rmr 6 139) D cI cZ cO A x0 e0 z mi [.ref x0, .int (nI x)] (mN F o0 x (mBest F o0 x)) F ik kp tu n F ik kp tu n 0 0 := by
  obtain ⟨hM, hE, hB, hw6, hZ⟩ := hok
  refine lw_of (fun he gv gp gb ob nm lo L f tg AD mc hL hA h1 h2 hR => ?_)
  subst h1; subst h2
  exact c_wr (k_X4_named l D cI cZ cO hR A hL hA x hM hE hx) hL hA rfl rfl
set_option maxHeartbeats 800000 in
theorem xc_loss (l : Launch) (D : va_G) (cI cZ cO : ClassId) {A : Nat → Prop} {x0 e0 z mi : Nat} {F : Nat → Nat → Int32} {ik kp tu : Nat → Int32} {n : Nat} (hok : okS F ik kp tu n) (x : Nat) (hx : x < n) : XC l yX4_loss wsX4_loss (rmr 6 139) D cI cZ cO A x0 e0 z mi [.ref x0, .int (nI x)] (mL F o0 x (mBest F o0 x)) F ik kp tu n F ik kp tu n 0 0 := by
  obtain ⟨hM, hE, hB, hw6, hZ⟩ := hok
  refine lw_of (fun he gv gp gb ob nm lo L f tg AD mc hL hA h1 h2 hR => ?_)
  subst h1; subst h2
  exact c_wr (k_X4_loss l D cI cZ cO hR A hL hA x hM hE hx) hL hA rfl rfl
set_option maxHeartbeats 800000 in
theorem xc_lossWith (l : Launch) (D : va_G) (cI cZ cO : ClassId) {A : Nat → Prop} {x0 e0 z mi : Nat} {F : Nat → Nat → Int32} {ik kp tu : Nat → Int32} {n : Nat} (hok : okS F ik kp tu n) (x : Nat) (gi : Int32) (hx : x < n) (hg : gi = -1 ∨ ∃ k, k < 6 ∧ gi = nI k) : XC l yX4_lossWith wsX4_lossWith (rmr 5 115) D cI cZ cO A x0 e0 z mi [.ref x0, .int (nI x), .int gi] (mL F o0 x gi) F ik kp tu n F ik kp tu n 0 0 := by
  obtain ⟨hM, hE, hB, hw6, hZ⟩ := hok
  refine lw_of (fun he gv gp gb ob nm lo L f tg AD mc hL hA h1 h2 hR => ?_)
  subst h1; subst h2
  exact c_wr (k_X4_lossWith l D cI cZ cO hR A hL hA x gi hM hE hx hg) hL hA rfl rfl
set_option maxHeartbeats 800000 in
theorem xc_turn (l : Launch) (D : va_G) (cI cZ cO : ClassId) {A : Nat → Prop} {x0 e0 z mi : Nat} {F : Nat → Nat → Int32} {ik kp tu : Nat → Int32} {n : Nat} (hok : okS F ik kp tu n) (x : Nat) (hx : x < n) (hk : ¬ ik x = 0) : XC l yX4_turn wsX4_turn (rmr 4 85) D cI cZ cO A x0 e0 z mi [.ref x0, .int (nI x)] (b2i (!toB (tu x))) F ik kp tu n F ik kp (upd tu x (b2i (!toB (tu x)))) n 0 0 := by
  obtain ⟨hM, hE, hB, hw6, hZ⟩ := hok
  refine lw_of (fun he gv gp gb ob nm lo L f tg AD mc hL hA h1 h2 hR => ?_)
  subst h1; subst h2
  exact c_wr (k_X4_turn l D cI cZ cO hR A hL hA x hx hB hk) hL hA rfl rfl
set_option maxHeartbeats 800000 in
theorem xc_pass1 (l : Launch) (D : va_G) (cI cZ cO : ClassId) {A : Nat → Prop} {x0 e0 z mi : Nat} {F : Nat → Nat → Int32} {ik kp tu : Nat → Int32} {n : Nat} (hok : okS F ik kp tu n)   : XP l yX4_pass wsX4_pass (rmr 6 139) D cI cZ cO A x0 e0 z mi [.ref x0] (fun r => ∃ m, m ≤ n ∧ r = nI m) F ik kp tu n F (ikA ik n) (kpA F o0 o0 kp n) tu n 0 0 := by
  obtain ⟨hM, hE, hB, hw6, hZ⟩ := hok
  refine lw_of (fun he gv gp gb ob nm lo L f tg AD mc hL hA h1 h2 hR => ?_)
  subst h1; subst h2
  exact c_wrP (by have h9 := k_X4_pass l D cI cZ cO hR A hL hA hM hE; rw [kpA_any F o0 gv o0] at h9; exact h9) hL hA rfl rfl (psN_le F gv ik kp n)
set_option maxHeartbeats 800000 in
theorem xc_pass2 (l : Launch) (D : va_G) (cI cZ cO : ClassId) {A : Nat → Prop} {x0 e0 z mi : Nat} {F : Nat → Nat → Int32} {ik kp tu : Nat → Int32} {n : Nat} (hok : okS F ik kp tu n)  (h1 : ∀ x, x < n → ik x = 1) (h2 : kpOK F kp n) : XP l yX4_pass wsX4_pass (rmr 6 139) D cI cZ cO A x0 e0 z mi [.ref x0] (fun r => r = 0) F ik kp tu n F (ikA ik n) (kpA F o0 o0 kp n) tu n 0 0 := by
  obtain ⟨hM, hE, hB, hw6, hZ⟩ := hok
  refine lw_of (fun he gv gp gb ob nm lo L f tg AD mc hL hA h1 h2 hR => ?_)
  subst h1; subst h2
  exact c_wrP (by have h9 := k_X4_pass l D cI cZ cO hR A hL hA hM hE; rw [kpA_any F o0 gv o0] at h9; exact h9) hL hA rfl rfl (psN_0 h1 h2 n (Nat.le_refl _))
set_option maxHeartbeats 800000 in
theorem xc_isFresh1 (l : Launch) (D : va_G) (cI cZ cO : ClassId) {A : Nat → Prop} {x0 e0 z mi : Nat} {F : Nat → Nat → Int32} {ik kp tu : Nat → Int32} {n : Nat} (hok : okS F ik kp tu n) (x : Nat) (hx : x < n) (h1 : ik x = 1) (h2 : kpOK F kp n) : XP l yX4_isFresh wsX4_isFresh (rmr 6 139) D cI cZ cO A x0 e0 z mi [.ref x0, .int (nI x)] (fun r => r = 1) F ik kp tu n F ik kp tu n 0 0 := by
  obtain ⟨hM, hE, hB, hw6, hZ⟩ := hok
  refine lw_of (fun he gv gp gb ob nm lo L f tg AD mc hL hA h1 h2 hR => ?_)
  subst h1; subst h2
  exact c_wrP (k_X4_isFresh l D cI cZ cO hR A hL hA x hM hE hx) hL hA rfl rfl (by rw [fresh_1 h1 h2 hx]; rfl)
