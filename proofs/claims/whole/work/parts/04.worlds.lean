/-! states and worlds of the two systems -/
abbrev Arr : Type := Nat → Int32
/-- a row: size, cells -/
abbrev RW : Type := Int32 × Arr
/-- a tree: letters, depths -/
abbrev TR : Type := RW × RW
/-- a state: tree, clip, keys, walks, marks, place, keysGiven -/
abbrev ST : Type := TR × TR × RW × RW × RW × Int32 × Int32
/-- the history: slots, oldest, size -/
abbrev HI : Type := (ST × ST × ST × ST) × Int32 × Int32
/-- the scan: tree, open, letterIsDue, mayOpen, faultPlace, reason -/
abbrev SC : Type := TR × RW × Int32 × Int32 × Int32 × Int32
/-- TreePlaces: now, history, text, scan -/
abbrev TP : Type := ST × HI × RW × SC
/-- the reference: s, begun, past, states, aside, text, length, place1, reason, tolds, told, rows -/
abbrev MD : Type := Arr × Arr × Arr × Int32 × Arr × Arr × Int32 × Int32 × Int32 × Int32 × Arr × Arr
abbrev aR : Type := Nat × Nat
abbrev aT : Type := Nat × aR × aR
abbrev aS : Type := Nat × aT × aT × aR × aR × aR
abbrev aH : Type := Nat × Nat × aS × aS × aS × aS
abbrev aC : Type := Nat × aT × aR
abbrev aP : Type := Nat × aS × aH × aR × aC
abbrev aM : Type := Nat × Nat × Nat × Nat × Nat × Nat × Nat × Nat
abbrev kTy (cI cS : ClassId) : List (ClassId × FieldType) := [(cI, .int), (cS, .object RX3)]
def hdR (a : aR) (r : RW) : va_W := [(a.1, .inr (1, [.ref a.2, .int r.1]))]
def hdT (a : aT) : va_W := [(a.1, .inr (4, [.ref a.2.1.1, .ref a.2.2.1]))]
def hdS (a : aS) (s : ST) : va_W := [(a.1, .inr (3, [.ref a.2.1.1, .ref a.2.2.1.1, .ref a.2.2.2.1.1, .ref a.2.2.2.2.1.1, .ref a.2.2.2.2.2.1, .int s.2.2.2.2.2.1, .int s.2.2.2.2.2.2]))]
def hdC (a : aC) (c : SC) : va_W := [(a.1, .inr (2, [.ref a.2.1.1, .ref a.2.2.1, .int c.2.2.1, .int c.2.2.2.1, .int c.2.2.2.2.1, .int c.2.2.2.2.2]))]
def hdP (a : aP) : va_W := [(a.1, .inr (5, [.ref a.2.1.1, .ref a.2.2.1.1, .ref a.2.2.2.1.1, .ref a.2.2.2.2.1]))]
def hdH (a : aH) (h : HI) : va_W := [(a.1, .inr (0, [.ref a.2.1, .int h.2.1, .int h.2.2]))]
def hdM (a : aM) (m : MD) : va_W := [(a.1, .inr (6, [.ref a.2.1, .ref a.2.2.1, .ref a.2.2.2.1, .int m.2.2.2.1, .ref a.2.2.2.2.1, .ref a.2.2.2.2.2.1, .int m.2.2.2.2.2.2.1, .int m.2.2.2.2.2.2.2.1, .int m.2.2.2.2.2.2.2.2.1, .int m.2.2.2.2.2.2.2.2.2.1, .ref a.2.2.2.2.2.2.1, .ref a.2.2.2.2.2.2.2]))]
def arI (cI : ClassId) (q n : Nat) (f : Arr) : va_W := [(q, .inl (cI, n, .inl f))]
def hSl (a : aH) : Nat → Option Nat := fun j => if j = 0 then some a.2.2.1.1 else if j = 1 then some a.2.2.2.1.1 else if j = 2 then some a.2.2.2.2.1.1 else if j = 3 then some a.2.2.2.2.2.1 else none
def arH (cS : ClassId) (a : aH) : va_W := [(a.2.1, .inl (cS, 4, .inr (.inr (.inr (.inr (hSl a))))))]
def wR (cI : ClassId) (a : aR) (n : Nat) (r : RW) : va_W := hdR a r ++ arI cI a.2 n r.2
def wT (cI : ClassId) (a : aT) (t : TR) : va_W := hdT a ++ (wR cI a.2.1 40 t.1 ++ wR cI a.2.2 40 t.2)
def wS (cI cS : ClassId) (a : aS) (s : ST) : va_W := hdS a s ++ (wT cI a.2.1 s.1 ++ (wT cI a.2.2.1 s.2.1 ++ (wR cI a.2.2.2.1 40 s.2.2.1 ++ (wR cI a.2.2.2.2.1 8 s.2.2.2.1 ++ wR cI a.2.2.2.2.2 4 s.2.2.2.2.1))))
def wH (cI cS : ClassId) (a : aH) (h : HI) : va_W := hdH a h ++ (arH cS a ++ (wS cI cS a.2.2.1 h.1.1 ++ (wS cI cS a.2.2.2.1 h.1.2.1 ++ (wS cI cS a.2.2.2.2.1 h.1.2.2.1 ++ wS cI cS a.2.2.2.2.2 h.1.2.2.2))))
def wC (cI cS : ClassId) (a : aC) (c : SC) : va_W := hdC a c ++ (wT cI a.2.1 c.1 ++ wR cI a.2.2 7 c.2.1)
def wP (cI cS : ClassId) (a : aP) (x : TP) : va_W := hdP a ++ (wS cI cS a.2.1 x.1 ++ (wH cI cS a.2.2.1 x.2.1 ++ (wR cI a.2.2.2.1 120 x.2.2.1 ++ wC cI cS a.2.2.2.2 x.2.2.2)))
def wM (cI cS : ClassId) (a : aM) (m : MD) : va_W := hdM a m ++ (arI cI a.2.1 218 m.1 ++ (arI cI a.2.2.1 218 m.2.1 ++ (arI cI a.2.2.2.1 872 m.2.2.1 ++ (arI cI a.2.2.2.2.1 120 m.2.2.2.2.1 ++ (arI cI a.2.2.2.2.2.1 120 m.2.2.2.2.2.1 ++ (arI cI a.2.2.2.2.2.2.1 80 m.2.2.2.2.2.2.2.2.2.2.1 ++ arI cI a.2.2.2.2.2.2.2 9 m.2.2.2.2.2.2.2.2.2.2.2))))))
theorem k_sel {cs pieces rest sel : List va_W} {N : Nat} (is js : List Nat) (hN : cs.length = N) (hp : (is ++ js).isPerm (List.range N) = true) (h1 : is.map (fun i => cs[i]?) = pieces.map some) (h2 : js.map (fun i => cs[i]?) = rest.map some) (h3 : pieces.flatten = sel.flatten) : cs.flatten.Perm (sel ++ rest).flatten := by
  have h := k_flat (k_split is js hN hp h1 h2)
  rw [List.flatten_append, h3, ← List.flatten_append] at h
  exact h
theorem k_guard {α : Type} {c : Prop} [Decidable c] {K : Option α} {o : α} (h : (if c then none else K) = some o) : ¬ c ∧ K = some o := by
  by_cases hc : c
  · rw [if_pos hc] at h; cases h
  · rw [if_neg hc] at h; exact ⟨hc, h⟩
theorem k_guard2 {α : Type} {c : Prop} [Decidable c] {K : Option α} {o : α} (h : (if c then K else none) = some o) : c ∧ K = some o := by
  by_cases hc : c
  · rw [if_pos hc] at h; exact ⟨hc, h⟩
  · rw [if_neg hc] at h; cases h
theorem k_pos {α : Type} {c : Prop} [Decidable c] {a b : α} {o : α} (hc : c) (h : (if c then a else b) = o) : a = o := by rw [if_pos hc] at h; exact h
theorem k_neg {α : Type} {c : Prop} [Decidable c] {a b : α} {o : α} (hc : ¬ c) (h : (if c then a else b) = o) : b = o := by rw [if_neg hc] at h; exact h
theorem k_ne {x : Int32} (c : Int32) {z : Int} (hz : c.toInt = z) (h : ¬ x = c) : x.toInt ≠ z := fun e => h (Int32.toInt_inj.mp (e.trans hz.symm))
theorem k_eq {x : Int32} {c : Int32} {z : Int} (hz : c.toInt = z) (h : x = c) : x.toInt = z := by rw [h]; exact hz

def csR (cI cS : ClassId) (a : aR) (n : Nat) (r : RW) : List va_W := [hdR a r, arI cI a.2 n r.2]
theorem flR (cI cS : ClassId) (a : aR) (n : Nat) (r : RW) : (csR cI cS a n r).flatten = ([wR cI a n r] : List va_W).flatten := by
  simp only [csR, wR, wT, wS, wC, wP, wM, wH, List.flatten_cons, List.flatten_nil, List.append_nil, List.append_assoc]
def csRR (cI cS : ClassId) (a : aR) (n : Nat) (r : RW) (b : aR) (n' : Nat) (r' : RW) : List va_W := [hdR a r, arI cI a.2 n r.2, hdR b r', arI cI b.2 n' r'.2]
theorem flRR (cI cS : ClassId) (a : aR) (n : Nat) (r : RW) (b : aR) (n' : Nat) (r' : RW) : (csRR cI cS a n r b n' r').flatten = ([wR cI a n r, wR cI b n' r'] : List va_W).flatten := by
  simp only [csRR, wR, wT, wS, wC, wP, wM, wH, List.flatten_cons, List.flatten_nil, List.append_nil, List.append_assoc]
def csT (cI cS : ClassId) (a : aT) (t : TR) : List va_W := [hdT a, wR cI a.2.1 40 t.1, wR cI a.2.2 40 t.2]
theorem flT (cI cS : ClassId) (a : aT) (t : TR) : (csT cI cS a t).flatten = ([wT cI a t] : List va_W).flatten := by
  simp only [csT, wR, wT, wS, wC, wP, wM, wH, List.flatten_cons, List.flatten_nil, List.append_nil, List.append_assoc]
def csTTx (cI cS : ClassId) (a : aT) (t : TR) (b : aT) (t' : TR) : List va_W := [hdT a, wR cI a.2.1 40 t.1, wR cI a.2.2 40 t.2, hdT b, wR cI b.2.1 40 t'.1, wR cI b.2.2 40 t'.2]
theorem flTTx (cI cS : ClassId) (a : aT) (t : TR) (b : aT) (t' : TR) : (csTTx cI cS a t b t').flatten = ([wT cI a t, wT cI b t'] : List va_W).flatten := by
  simp only [csTTx, wR, wT, wS, wC, wP, wM, wH, List.flatten_cons, List.flatten_nil, List.append_nil, List.append_assoc]
def csTT (cI cS : ClassId) (a : aT) (t : TR) (b : aT) (t' : TR) : List va_W := [hdT a, wR cI a.2.1 40 t.1, wR cI a.2.2 40 t.2, wT cI b t']
theorem flTT (cI cS : ClassId) (a : aT) (t : TR) (b : aT) (t' : TR) : (csTT cI cS a t b t').flatten = ([wT cI a t, wT cI b t'] : List va_W).flatten := by
  simp only [csTT, wR, wT, wS, wC, wP, wM, wH, List.flatten_cons, List.flatten_nil, List.append_nil, List.append_assoc]
def csTR (cI cS : ClassId) (a : aT) (t : TR) (b : aR) (n' : Nat) (r' : RW) : List va_W := [hdT a, wR cI a.2.1 40 t.1, wR cI a.2.2 40 t.2, wR cI b n' r']
theorem flTR (cI cS : ClassId) (a : aT) (t : TR) (b : aR) (n' : Nat) (r' : RW) : (csTR cI cS a t b n' r').flatten = ([wT cI a t, wR cI b n' r'] : List va_W).flatten := by
  simp only [csTR, wR, wT, wS, wC, wP, wM, wH, List.flatten_cons, List.flatten_nil, List.append_nil, List.append_assoc]
def csS (cI cS : ClassId) (a : aS) (s : ST) : List va_W := [hdS a s, wT cI a.2.1 s.1, wT cI a.2.2.1 s.2.1, wR cI a.2.2.2.1 40 s.2.2.1, wR cI a.2.2.2.2.1 8 s.2.2.2.1, wR cI a.2.2.2.2.2 4 s.2.2.2.2.1]
theorem flS (cI cS : ClassId) (a : aS) (s : ST) : (csS cI cS a s).flatten = ([wS cI cS a s] : List va_W).flatten := by
  simp only [csS, wR, wT, wS, wC, wP, wM, wH, List.flatten_cons, List.flatten_nil, List.append_nil, List.append_assoc]
def csSSx (cI cS : ClassId) (a : aS) (s : ST) (b : aS) (s' : ST) : List va_W := [hdS a s, wT cI a.2.1 s.1, wT cI a.2.2.1 s.2.1, wR cI a.2.2.2.1 40 s.2.2.1, wR cI a.2.2.2.2.1 8 s.2.2.2.1, wR cI a.2.2.2.2.2 4 s.2.2.2.2.1, hdS b s', wT cI b.2.1 s'.1, wT cI b.2.2.1 s'.2.1, wR cI b.2.2.2.1 40 s'.2.2.1, wR cI b.2.2.2.2.1 8 s'.2.2.2.1, wR cI b.2.2.2.2.2 4 s'.2.2.2.2.1]
theorem flSSx (cI cS : ClassId) (a : aS) (s : ST) (b : aS) (s' : ST) : (csSSx cI cS a s b s').flatten = ([wS cI cS a s, wS cI cS b s'] : List va_W).flatten := by
  simp only [csSSx, wR, wT, wS, wC, wP, wM, wH, List.flatten_cons, List.flatten_nil, List.append_nil, List.append_assoc]
def csST (cI cS : ClassId) (a : aS) (s : ST) (b : aT) (t' : TR) : List va_W := [hdS a s, wT cI a.2.1 s.1, wT cI a.2.2.1 s.2.1, wR cI a.2.2.2.1 40 s.2.2.1, wR cI a.2.2.2.2.1 8 s.2.2.2.1, wR cI a.2.2.2.2.2 4 s.2.2.2.2.1, wT cI b t']
theorem flST (cI cS : ClassId) (a : aS) (s : ST) (b : aT) (t' : TR) : (csST cI cS a s b t').flatten = ([wS cI cS a s, wT cI b t'] : List va_W).flatten := by
  simp only [csST, wR, wT, wS, wC, wP, wM, wH, List.flatten_cons, List.flatten_nil, List.append_nil, List.append_assoc]
def csC (cI cS : ClassId) (a : aC) (c : SC) : List va_W := [hdC a c, wT cI a.2.1 c.1, wR cI a.2.2 7 c.2.1]
theorem flC (cI cS : ClassId) (a : aC) (c : SC) : (csC cI cS a c).flatten = ([wC cI cS a c] : List va_W).flatten := by
  simp only [csC, wR, wT, wS, wC, wP, wM, wH, List.flatten_cons, List.flatten_nil, List.append_nil, List.append_assoc]
def csCR (cI cS : ClassId) (a : aC) (c : SC) (b : aR) (n' : Nat) (r' : RW) : List va_W := [hdC a c, wT cI a.2.1 c.1, wR cI a.2.2 7 c.2.1, wR cI b n' r']
theorem flCR (cI cS : ClassId) (a : aC) (c : SC) (b : aR) (n' : Nat) (r' : RW) : (csCR cI cS a c b n' r').flatten = ([wC cI cS a c, wR cI b n' r'] : List va_W).flatten := by
  simp only [csCR, wR, wT, wS, wC, wP, wM, wH, List.flatten_cons, List.flatten_nil, List.append_nil, List.append_assoc]
def csP (cI cS : ClassId) (a : aP) (x : TP) : List va_W := [hdP a, hdS a.2.1 x.1, wT cI a.2.1.2.1 x.1.1, wT cI a.2.1.2.2.1 x.1.2.1, wR cI a.2.1.2.2.2.1 40 x.1.2.2.1, wR cI a.2.1.2.2.2.2.1 8 x.1.2.2.2.1, wR cI a.2.1.2.2.2.2.2 4 x.1.2.2.2.2.1, wH cI cS a.2.2.1 x.2.1, wR cI a.2.2.2.1 120 x.2.2.1, hdC a.2.2.2.2 x.2.2.2, wT cI a.2.2.2.2.2.1 x.2.2.2.1, wR cI a.2.2.2.2.2.2 7 x.2.2.2.2.1]
theorem flP (cI cS : ClassId) (a : aP) (x : TP) : (csP cI cS a x).flatten = ([wP cI cS a x] : List va_W).flatten := by
  simp only [csP, wR, wT, wS, wC, wP, wM, wH, List.flatten_cons, List.flatten_nil, List.append_nil, List.append_assoc]
def csM (cI cS : ClassId) (a : aM) (m : MD) : List va_W := [hdM a m, arI cI a.2.1 218 m.1, arI cI a.2.2.1 218 m.2.1, arI cI a.2.2.2.1 872 m.2.2.1, arI cI a.2.2.2.2.1 120 m.2.2.2.2.1, arI cI a.2.2.2.2.2.1 120 m.2.2.2.2.2.1, arI cI a.2.2.2.2.2.2.1 80 m.2.2.2.2.2.2.2.2.2.2.1, arI cI a.2.2.2.2.2.2.2 9 m.2.2.2.2.2.2.2.2.2.2.2]
theorem flM (cI cS : ClassId) (a : aM) (m : MD) : (csM cI cS a m).flatten = ([wM cI cS a m] : List va_W).flatten := by
  simp only [csM, wR, wT, wS, wC, wP, wM, wH, List.flatten_cons, List.flatten_nil, List.append_nil, List.append_assoc]
def csr (cI cS : ClassId) (a : aR) (n : Nat) (r : RW) : List va_W := [wR cI a n r]
theorem flr (cI cS : ClassId) (a : aR) (n : Nat) (r : RW) : (csr cI cS a n r).flatten = ([wR cI a n r] : List va_W).flatten := by
  simp only [csr, wR, wT, wS, wC, wP, wM, wH, List.flatten_cons, List.flatten_nil, List.append_nil, List.append_assoc]
def csN (cI cS : ClassId)  : List va_W := []
theorem flN (cI cS : ClassId)  : (csN cI cS ).flatten = ([] : List va_W).flatten := by
  simp only [csN, wR, wT, wS, wC, wP, wM, wH, List.flatten_cons, List.flatten_nil, List.append_nil, List.append_assoc]
def csH (cI cS : ClassId) (a : aH) (h : HI) : List va_W := [hdH a h, arH cS a, wS cI cS a.2.2.1 h.1.1, wS cI cS a.2.2.2.1 h.1.2.1, wS cI cS a.2.2.2.2.1 h.1.2.2.1, wS cI cS a.2.2.2.2.2 h.1.2.2.2]
theorem flH (cI cS : ClassId) (a : aH) (h : HI) : (csH cI cS a h).flatten = ([wH cI cS a h] : List va_W).flatten := by
  simp only [csH, wR, wT, wS, wC, wP, wM, wH, List.flatten_cons, List.flatten_nil, List.append_nil, List.append_assoc]
def csHS (cI cS : ClassId) (a : aH) (h : HI) (b : aS) (s' : ST) : List va_W := [hdH a h, arH cS a, wS cI cS a.2.2.1 h.1.1, wS cI cS a.2.2.2.1 h.1.2.1, wS cI cS a.2.2.2.2.1 h.1.2.2.1, wS cI cS a.2.2.2.2.2 h.1.2.2.2, wS cI cS b s']
theorem flHS (cI cS : ClassId) (a : aH) (h : HI) (b : aS) (s' : ST) : (csHS cI cS a h b s').flatten = ([wH cI cS a h, wS cI cS b s'] : List va_W).flatten := by
  simp only [csHS, wR, wT, wS, wC, wP, wM, wH, List.flatten_cons, List.flatten_nil, List.append_nil, List.append_assoc]
