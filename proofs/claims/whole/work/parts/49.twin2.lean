/-! ===== a step of a twin, over any numbers ===== -/
section TX
variable {α : Type}
/-- kinds, settings, from, turned, xs, ys, points, lengths of rows, order of reading, modules, rule -/
abbrev Pt (α : Type) : Type := (Int → Int) × (Int → α) × (Int → Int) × (Int → Int) × (Int → α) × (Int → α) × (Int → Int) × (Int → Int) × List Int × Nat × Int
/-- readings, states, rows (oldest first), seeds -/
abbrev Ts (α : Type) : Type := (Int → α) × (Int → α) × (Int → α) × (Int → Int)
def pK (P : Pt α) : Int → Int := P.1
def pFr (P : Pt α) : Int → Int := P.2.2.1
def pTu (P : Pt α) : Int → Int := P.2.2.2.1
def pNn (P : Pt α) : Int → Int := P.2.2.2.2.2.2.2.1
def pOr (P : Pt α) : List Int := P.2.2.2.2.2.2.2.2.1
def pN (P : Pt α) : Nat := P.2.2.2.2.2.2.2.2.2.1
def pRu (P : Pt α) : Int := P.2.2.2.2.2.2.2.2.2.2
def pEv (P : Pt α) (row st : Int → α) : Ev α := (P.1, P.2.1, P.2.2.1, P.2.2.2.1, P.2.2.2.2.1, P.2.2.2.2.2.1, P.2.2.2.2.2.2.1, row, st)
def gRd (A : Ar α) (P : Pt α) (row st r : Int → α) : (Int → α) × (Int → Bool) := gread A (pEv P row st) (pOr P) (r, fun _ => false)
def gMs (A : Ar α) (P : Pt α) (h : α) (bf K st : Int → α) : Int → α := pw st (gmvS A (pK P) h bf K st) (pN P)
def gMb (A : Ar α) (P : Pt α) (h : α) (bf K : Int → α) : Int → Bool := pw (fun _ => false) (gmvB A (pK P) h bf K) (pN P)
def gK (A : Ar α) (P : Pt α) (r : Int → α) : Int → α := gra A (pFr P) (pTu P) r
/-- moved and read: readings, states, flags -/
def gPh (A : Ar α) (P : Pt α) (row : Int → α) (h : α) (bf K : Int → α) (x : (Int → α) × (Int → α) × (Int → Bool)) : (Int → α) × (Int → α) × (Int → Bool) :=
  ((gRd A P row (gMs A P h bf K x.2.1) x.1).1, gMs A P h bf K x.2.1, fun k => x.2.2 k || gMb A P h bf K k || (gRd A P row (gMs A P h bf K x.2.1) x.1).2 k)
/-- moved: readings, states, flags -/
def gMo (A : Ar α) (P : Pt α) (h : α) (bf K : Int → α) (x : (Int → α) × (Int → α) × (Int → Bool)) : (Int → α) × (Int → α) × (Int → Bool) :=
  (x.1, gMs A P h bf K x.2.1, fun k => x.2.2 k || gMb A P h bf K k)
def gR1 (A : Ar α) (P : Pt α) (row : Int → α) (h h2 : α) (st K1 : Int → α) (x : (Int → α) × (Int → α) × (Int → Bool)) : (Int → α) × (Int → α) × (Int → Bool) :=
  gMo A P h2 st (fun m => Aadd A (K1 m) (gK A P (gPh A P row h st K1 x).1 m)) (gPh A P row h st K1 x)
def gR2 (A : Ar α) (P : Pt α) (row : Int → α) (h h2 : α) (st K1 : Int → α) (x : (Int → α) × (Int → α) × (Int → Bool)) : (Int → α) × (Int → α) × (Int → Bool) :=
  let y2 := gPh A P row h2 st K1 x
  let K2 := gK A P y2.1
  let y3 := gPh A P row h2 st K2 y2
  let K3 := gK A P y3.1
  let y4 := gPh A P row h st K3 y3
  gMo A P h st (fun m => gwg A (K1 m) (K2 m) (K3 m) (gK A P y4.1 m)) y4
def gMid (A : Ar α) (P : Pt α) (row : Int → α) (h h2 : α) (r st : Int → α) : (Int → α) × (Int → α) × (Int → Bool) :=
  if pRu P = 0 then gMo A P h st (gK A P r) (r, st, fun _ => false)
  else if pRu P = 1 then gR1 A P row h h2 st (gK A P r) (r, st, fun _ => false)
  else gR2 A P row h h2 st (gK A P r) (r, st, fun _ => false)
/-- a step: the twin behind it, and which lamps it lights; z gives a noise's number -/
def gstep (A : Ar α) (z : Int → α) (P : Pt α) (h h2 : α) (s : Ts α) : Ts α × (Int → Bool) :=
  let y := gMid A P s.2.2.1 h h2 s.1 s.2.1
  let nx := gnx A (pK P) (pFr P) (pTu P) s.1 s.2.1
  let sd := pw s.2.2.2 (sdS (pK P) s.2.2.2) (pN P)
  let st := pw y.2.1 (othS (pK P) nx y.2.1 (fun m => z (sdS (pK P) s.2.2.2 m))) (pN P)
  let row := pw s.2.2.1 (rowS (pK P) (pNn P) s.2.2.1 nx) (16 * pN P)
  let q := gRd A P row st y.1
  ((q.1, st, row, sd), fun k => y.2.2 k || q.2 k)
end TX
def ptD (σ : Hp) (N : Nat) : Pt UInt64 := (hI σ 70, hD σ 71, hI σ 72, hI σ 73, hD σ 76, hD σ 77, hI σ 75, nnR σ, ords (hI σ 79) N, N, hI σ 69 13)
def ptF (σ : Hp) (N : Nat) : Pt UInt32 := (hI σ 70, xF (hD σ 71), hI σ 72, hI σ 73, xF (hD σ 76), xF (hD σ 77), hI σ 75, nnR σ, ords (hI σ 79) N, N, hI σ 69 13)
def tsD (σ : Hp) : Ts UInt64 := (hD σ 82, hD σ 80, hD σ 84, hI σ 86)
def tsF (σ : Hp) : Ts UInt32 := (hF σ 83, hF σ 81, hF σ 85, hI σ 86)
