/-! the two sides, as wholes -/
abbrev WS : Type := Int64 × Nat × Int32 × (Nat → Int32) × Nat × (Nat → Int32) × (Nat → Int32) × (Nat → Int32) × (Nat → Int32) × Int32
def WS.f (x : WS) : Int64 := x.1
def WS.t (x : WS) : Nat := x.2.1
def WS.z (x : WS) : Int32 := x.2.2.1
def WS.m (x : WS) : Nat → Int32 := x.2.2.2.1
def WS.n (x : WS) : Nat := x.2.2.2.2.1
def WS.kd (x : WS) : Nat → Int32 := x.2.2.2.2.2.1
def WS.ce (x : WS) : Nat → Int32 := x.2.2.2.2.2.2.1
def WS.ho (x : WS) : Nat → Int32 := x.2.2.2.2.2.2.2.1
def WS.ac (x : WS) : Nat → Int32 := x.2.2.2.2.2.2.2.2.1
def WS.y (x : WS) : Int32 := x.2.2.2.2.2.2.2.2.2
abbrev SS : Type := Bool × Int32 × Nat × (Nat → Int64)
def SS.h (x : SS) : Bool := x.1
def SS.l (x : SS) : Int32 := x.2.1
def SS.n (x : SS) : Nat := x.2.2.1
def SS.i (x : SS) : Nat → Int64 := x.2.2.2
abbrev XS : Type := Nat × Int64 × Nat × (Nat → Int32) × (Nat → Int32) × WS × WS × Bool × Int64 × Nat × Int32 × (Nat → Int32) × Nat × (Nat → Int32) × (Nat → Int32) × (Nat → Int32) × (Nat → Int32) × Nat × (Nat → Int32) × (Nat → Int32) × Int64 × Int32 × Int32 × Int32 × (Nat → Int32) × (Nat → Int32) × (Nat → Int32) × Int64 × Int64 × (Nat → Int32) × SS × SS × SS × SS
def XS.tn (x : XS) : Nat := x.1
def XS.tf (x : XS) : Int64 := x.2.1
def XS.tu (x : XS) : Nat := x.2.2.1
def XS.tb (x : XS) : Nat → Int32 := x.2.2.2.1
def XS.tm (x : XS) : Nat → Int32 := x.2.2.2.2.1
def XS.w (x : XS) : WS := x.2.2.2.2.2.1
def XS.v (x : XS) : WS := x.2.2.2.2.2.2.1
def XS.xi (x : XS) : Bool := x.2.2.2.2.2.2.2.1
def XS.gf (x : XS) : Int64 := x.2.2.2.2.2.2.2.2.1
def XS.gt (x : XS) : Nat := x.2.2.2.2.2.2.2.2.2.1
def XS.gz (x : XS) : Int32 := x.2.2.2.2.2.2.2.2.2.2.1
def XS.gm (x : XS) : Nat → Int32 := x.2.2.2.2.2.2.2.2.2.2.2.1
def XS.pn (x : XS) : Nat := x.2.2.2.2.2.2.2.2.2.2.2.2.1
def XS.pk (x : XS) : Nat → Int32 := x.2.2.2.2.2.2.2.2.2.2.2.2.2.1
def XS.pc (x : XS) : Nat → Int32 := x.2.2.2.2.2.2.2.2.2.2.2.2.2.2.1
def XS.ph (x : XS) : Nat → Int32 := x.2.2.2.2.2.2.2.2.2.2.2.2.2.2.2.1
def XS.pa (x : XS) : Nat → Int32 := x.2.2.2.2.2.2.2.2.2.2.2.2.2.2.2.2.1
def XS.sn (x : XS) : Nat := x.2.2.2.2.2.2.2.2.2.2.2.2.2.2.2.2.2.1
def XS.sc (x : XS) : Nat → Int32 := x.2.2.2.2.2.2.2.2.2.2.2.2.2.2.2.2.2.2.1
def XS.sw (x : XS) : Nat → Int32 := x.2.2.2.2.2.2.2.2.2.2.2.2.2.2.2.2.2.2.2.1
def XS.lw (x : XS) : Int64 := x.2.2.2.2.2.2.2.2.2.2.2.2.2.2.2.2.2.2.2.2.1
def XS.la (x : XS) : Int32 := x.2.2.2.2.2.2.2.2.2.2.2.2.2.2.2.2.2.2.2.2.2.1
def XS.lb (x : XS) : Int32 := x.2.2.2.2.2.2.2.2.2.2.2.2.2.2.2.2.2.2.2.2.2.2.1
def XS.ls (x : XS) : Int32 := x.2.2.2.2.2.2.2.2.2.2.2.2.2.2.2.2.2.2.2.2.2.2.2.1
def XS.ds (x : XS) : Nat → Int32 := x.2.2.2.2.2.2.2.2.2.2.2.2.2.2.2.2.2.2.2.2.2.2.2.2.1
def XS.df (x : XS) : Nat → Int32 := x.2.2.2.2.2.2.2.2.2.2.2.2.2.2.2.2.2.2.2.2.2.2.2.2.2.1
def XS.dm (x : XS) : Nat → Int32 := x.2.2.2.2.2.2.2.2.2.2.2.2.2.2.2.2.2.2.2.2.2.2.2.2.2.2.1
def XS.kw (x : XS) : Int64 := x.2.2.2.2.2.2.2.2.2.2.2.2.2.2.2.2.2.2.2.2.2.2.2.2.2.2.2.1
def XS.kc (x : XS) : Int64 := x.2.2.2.2.2.2.2.2.2.2.2.2.2.2.2.2.2.2.2.2.2.2.2.2.2.2.2.2.1
def XS.kt (x : XS) : Nat → Int32 := x.2.2.2.2.2.2.2.2.2.2.2.2.2.2.2.2.2.2.2.2.2.2.2.2.2.2.2.2.2.1
def XS.s0 (x : XS) : SS := x.2.2.2.2.2.2.2.2.2.2.2.2.2.2.2.2.2.2.2.2.2.2.2.2.2.2.2.2.2.2.1
def XS.s1 (x : XS) : SS := x.2.2.2.2.2.2.2.2.2.2.2.2.2.2.2.2.2.2.2.2.2.2.2.2.2.2.2.2.2.2.2.1
def XS.s2 (x : XS) : SS := x.2.2.2.2.2.2.2.2.2.2.2.2.2.2.2.2.2.2.2.2.2.2.2.2.2.2.2.2.2.2.2.2.1
def XS.s3 (x : XS) : SS := x.2.2.2.2.2.2.2.2.2.2.2.2.2.2.2.2.2.2.2.2.2.2.2.2.2.2.2.2.2.2.2.2.2
abbrev MS : Type := WS × Int64 × Nat × Nat × Int64 × Int32 × Int32 × Int32 × Int64 × Bool × (Nat → Int32) × (Nat → Int32) × (Nat → Int32) × (Nat → Int32) × (Nat → Int32) × (Nat → Int32) × (Nat → Int32) × (Nat → Int32) × (Nat → Int32) × (Nat → Int64) × (Nat → Int64)
def MS.w (x : MS) : WS := x.1
def MS.S (x : MS) : Int64 := x.2.1
def MS.T (x : MS) : Nat := x.2.2.1
def MS.A (x : MS) : Nat := x.2.2.2.1
def MS.F (x : MS) : Int64 := x.2.2.2.2.1
def MS.Z (x : MS) : Int32 := x.2.2.2.2.2.1
def MS.K (x : MS) : Int32 := x.2.2.2.2.2.2.1
def MS.H (x : MS) : Int32 := x.2.2.2.2.2.2.2.1
def MS.I (x : MS) : Int64 := x.2.2.2.2.2.2.2.2.1
def MS.B (x : MS) : Bool := x.2.2.2.2.2.2.2.2.2.1
def MS.sc (x : MS) : Nat → Int32 := x.2.2.2.2.2.2.2.2.2.2.1
def MS.ta (x : MS) : Nat → Int32 := x.2.2.2.2.2.2.2.2.2.2.2.1
def MS.re (x : MS) : Nat → Int32 := x.2.2.2.2.2.2.2.2.2.2.2.2.1
def MS.th (x : MS) : Nat → Int32 := x.2.2.2.2.2.2.2.2.2.2.2.2.2.1
def MS.co (x : MS) : Nat → Int32 := x.2.2.2.2.2.2.2.2.2.2.2.2.2.2.1
def MS.ga (x : MS) : Nat → Int32 := x.2.2.2.2.2.2.2.2.2.2.2.2.2.2.2.1
def MS.im (x : MS) : Nat → Int32 := x.2.2.2.2.2.2.2.2.2.2.2.2.2.2.2.2.1
def MS.la (x : MS) : Nat → Int32 := x.2.2.2.2.2.2.2.2.2.2.2.2.2.2.2.2.2.1
def MS.sz (x : MS) : Nat → Int32 := x.2.2.2.2.2.2.2.2.2.2.2.2.2.2.2.2.2.2.1
def MS.it (x : MS) : Nat → Int64 := x.2.2.2.2.2.2.2.2.2.2.2.2.2.2.2.2.2.2.2.1
def MS.mv (x : MS) : Nat → Int64 := x.2.2.2.2.2.2.2.2.2.2.2.2.2.2.2.2.2.2.2.2
def EW (a : WS) (b : WS) : Prop := (a.f = b.f) ∧ (a.t = b.t) ∧ (a.z = b.z) ∧ (a.n = b.n) ∧ (a.y = b.y) ∧ (∀ j, j < b.t → a.m j = b.m j) ∧ (∀ j, j < b.n → a.kd j = b.kd j ∧ a.ce j = b.ce j ∧ a.ho j = b.ho j ∧ a.ac j = b.ac j)
theorem EW.ef {a : WS} {b : WS} (h : EW a b) : a.f = b.f := h.1
theorem EW.et {a : WS} {b : WS} (h : EW a b) : a.t = b.t := h.2.1
theorem EW.ez {a : WS} {b : WS} (h : EW a b) : a.z = b.z := h.2.2.1
theorem EW.en {a : WS} {b : WS} (h : EW a b) : a.n = b.n := h.2.2.2.1
theorem EW.ey {a : WS} {b : WS} (h : EW a b) : a.y = b.y := h.2.2.2.2.1
theorem EW.em {a : WS} {b : WS} (h : EW a b) : ∀ j, j < b.t → a.m j = b.m j := h.2.2.2.2.2.1
theorem EW.ep {a : WS} {b : WS} (h : EW a b) : ∀ j, j < b.n → a.kd j = b.kd j ∧ a.ce j = b.ce j ∧ a.ho j = b.ho j ∧ a.ac j = b.ac j := h.2.2.2.2.2.2
def OKW (b : WS) : Prop := (b.t ≤ 6) ∧ (b.n ≤ 6) ∧ (in36 b.f) ∧ (∃ q, q < 10 ∧ b.z = nI q) ∧ (b.y ≤ 9999) ∧ (∀ j, j < b.t → vp_in (b.m j) 36) ∧ (∀ j, j < b.n → b.kd j = 0 ∨ b.kd j = 1 ∨ b.kd j = 2 ∨ b.kd j = 3) ∧ (∀ j, j < b.n → vp_in (b.ce j) 36) ∧ (∀ j, j < b.n → 0 ≤ b.ho j)
theorem OKW.ot {b : WS} (h : OKW b) : b.t ≤ 6 := h.1
theorem OKW.on {b : WS} (h : OKW b) : b.n ≤ 6 := h.2.1
theorem OKW.of {b : WS} (h : OKW b) : in36 b.f := h.2.2.1
theorem OKW.oz {b : WS} (h : OKW b) : ∃ q, q < 10 ∧ b.z = nI q := h.2.2.2.1
theorem OKW.oy {b : WS} (h : OKW b) : b.y ≤ 9999 := h.2.2.2.2.1
theorem OKW.om {b : WS} (h : OKW b) : ∀ j, j < b.t → vp_in (b.m j) 36 := h.2.2.2.2.2.1
theorem OKW.ok {b : WS} (h : OKW b) : ∀ j, j < b.n → b.kd j = 0 ∨ b.kd j = 1 ∨ b.kd j = 2 ∨ b.kd j = 3 := h.2.2.2.2.2.2.1
theorem OKW.oc {b : WS} (h : OKW b) : ∀ j, j < b.n → vp_in (b.ce j) 36 := h.2.2.2.2.2.2.2.1
theorem OKW.oh {b : WS} (h : OKW b) : ∀ j, j < b.n → 0 ≤ b.ho j := h.2.2.2.2.2.2.2.2
def TP (tn : Nat) (tb : Nat → Int32) (T : Nat) (ta : Nat → Int32) : Prop := tn = T ∧ T ≤ 60 ∧ ∀ j, j < T → tb j = ta j ∧ ¬ ta j = 0
abbrev mkW (f : Int64) (t : Nat) (z : Int32) (m : Nat → Int32) (n : Nat) (kd ce ho ac : Nat → Int32) (y : Int32) : WS := (f, t, z, m, n, kd, ce, ho, ac, y)
def imW (I : Int64) (im : Nat → Int32) (t n : Nat) : WS := mkW I t (im 32) (fun q => im (0 + q)) n (fun q => im (6 + q)) (fun q => im (12 + q)) (fun q => im (18 + q)) (fun q => im (24 + q)) (im 33)
def IM (xi : Bool) (v : WS) (B : Bool) (I : Int64) (im : Nat → Int32) : Prop := xi = B ∧ (B = true → ∃ t n, im 30 = nI t ∧ im 31 = nI n ∧ EW v (imW I im t n) ∧ OKW (imW I im t n))
def SH (s : SS) (k : Nat) (la sz : Nat → Int32) (it : Nat → Int64) : Prop := (s.h = true → la k = s.l ∧ 0 ≤ s.l) ∧ (s.h = false → la k < 0) ∧ sz k = nI s.n ∧ s.n ≤ 16 ∧ (s.h = true → ∀ j, j < s.n → s.i j = it (16 * k + j))
def Sim (x : XS) (m : MS) : Prop := (TP x.tn x.tb m.T m.ta) ∧ (EW x.w m.w) ∧ (OKW m.w) ∧ (IM x.xi x.v m.B m.I m.im) ∧ (SH x.s0 0 m.la m.sz m.it) ∧ (SH x.s1 1 m.la m.sz m.it) ∧ (SH x.s2 2 m.la m.sz m.it) ∧ (SH x.s3 3 m.la m.sz m.it) ∧ (x.ls = stX x.lw x.la x.lb)
theorem Sim.tp {x : XS} {m : MS} (h : Sim x m) : TP x.tn x.tb m.T m.ta := h.1
theorem Sim.e {x : XS} {m : MS} (h : Sim x m) : EW x.w m.w := h.2.1
theorem Sim.o {x : XS} {m : MS} (h : Sim x m) : OKW m.w := h.2.2.1
theorem Sim.im {x : XS} {m : MS} (h : Sim x m) : IM x.xi x.v m.B m.I m.im := h.2.2.2.1
theorem Sim.s0 {x : XS} {m : MS} (h : Sim x m) : SH x.s0 0 m.la m.sz m.it := h.2.2.2.2.1
theorem Sim.s1 {x : XS} {m : MS} (h : Sim x m) : SH x.s1 1 m.la m.sz m.it := h.2.2.2.2.2.1
theorem Sim.s2 {x : XS} {m : MS} (h : Sim x m) : SH x.s2 2 m.la m.sz m.it := h.2.2.2.2.2.2.1
theorem Sim.s3 {x : XS} {m : MS} (h : Sim x m) : SH x.s3 3 m.la m.sz m.it := h.2.2.2.2.2.2.2.1
theorem Sim.c {x : XS} {m : MS} (h : Sim x m) : x.ls = stX x.lw x.la x.lb := h.2.2.2.2.2.2.2.2
section LW
variable {p : Program} {l : Launch} {e : Env} {R : Room} {s : State} {m : MethodId} {args : Array Value} {below : List Frame} {meth : Method} {c : Code} {Q : State → Prop} {g : XG} {A A2 : Nat → Prop} {nL cells slots : Nat} {cc : ByteArray} {own : String} {Ts : List Cond} {lv : List (Nat × Value)} {ws : va_W} {pc : Nat} {st : List Value}
theorem V_sld (X : Cx p s m args meth c g A cc own nL Ts) {b L : Nat} {xs : Nat → Int32} (hX : va_X b L xs s s.heap) (hbl : b < s.heap.size) (hbA : ¬ A b) {i v : Int32} (d : decode cc pc = .ok (.iaload, 1)) (hin : vp_in i L) (hv : xs i.toNatClampNeg = v) (k : V p l e R s m args below meth c Q g A A2 nL cells slots lv ws (pc + 1) (.int v :: st)) : V p l e R s m args below meth c Q g A A2 nL cells slots lv ws pc (.int i :: .ref b :: st) := fun H locs ls hP hD hS hl => va_sld X.1 X.2.1 hX hbl hbA hS hin d (hv ▸ k H locs ls hP hD hS hl)
theorem V_slen (X : Cx p s m args meth c g A cc own nL Ts) {b L : Nat} {xs : Nat → Int32} (hX : va_X b L xs s s.heap) (hbl : b < s.heap.size) (hbA : ¬ A b) {v : Int32} (d : decode cc pc = .ok (.arraylength, 1)) (hv : Int32.ofNat L = v) (k : V p l e R s m args below meth c Q g A A2 nL cells slots lv ws (pc + 1) (.int v :: st)) : V p l e R s m args below meth c Q g A A2 nL cells slots lv ws pc (.ref b :: st) := fun H locs ls hP hD hS hl => va_slen X.1 X.2.1 hX hbl hbA hS d (hv ▸ k H locs ls hP hD hS hl)
end LW
/-- the law's own place -/
def Lx (p : Program) (s : State) (m : MethodId) (meth : Method) (c : Code) (g : XG) (b L : Nat) (xs : Nat → Int32) : Prop := Cx p s m #[.ref b] meth c g (fun q => s.heap.size ≤ q) cL_law RL 4 wsL_law ∧ va_X b L xs s s.heap ∧ b < s.heap.size ∧ L ≤ 512
