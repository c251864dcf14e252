/-! going through a timetable: the states of drills, who is away till when, the hoses (32 bits as they are) -/
abbrev PL : Type := (Nat → Int) × (Nat → Nat) × (Nat → Int) × (Nat → Int) × (Nat → Int) × (Nat → Nat) × (Nat → Int32) × Int32 × Int32 × Int32
def pSt (q : PL) : Nat → Int := q.1
def pTk (q : PL) : Nat → Nat := q.2.1
def pBg (q : PL) : Nat → Int := q.2.2.1
def pEn (q : PL) : Nat → Int := q.2.2.2.1
def pBk (q : PL) : Nat → Int := q.2.2.2.2.1
def pBu (q : PL) : Nat → Nat := q.2.2.2.2.2.1
def pDa (q : PL) : Nat → Int32 := q.2.2.2.2.2.2.1
def pDr (q : PL) : Int32 := q.2.2.2.2.2.2.2.1
def pWe (q : PL) : Int32 := q.2.2.2.2.2.2.2.2.1
def pDg (q : PL) : Int32 := q.2.2.2.2.2.2.2.2.2
def upZ (f : Nat → Int) (i : Nat) (v : Int) : Nat → Int := fun j => if j = i then v else f j
def upW (f : Nat → Int32) (i : Nat) (v : Int32) : Nat → Int32 := fun j => if j = i then v else f j
def setSt (q : PL) (d : Nat) (v : Int) : PL := (upZ q.1 d v, q.2)
def anyB (f : Nat → Bool) : Nat → Bool
  | 0 => false
  | n + 1 => anyB f n || f n
def pk (β : BD) (mis t : Nat) (bu : Nat → Nat) (d k S e : Nat) : Bool := β 97 e == k && (!S.testBit e && (!mis.testBit e && (decide (bu e ≤ t) && decide (slotsT β e d ≤ 6))))
def bestE (β : BD) (p : Nat → Bool) (d : Nat) : Nat → Option Nat
  | 0 => none
  | n + 1 => match bestE β p d n with
    | none => if p n = true then some n else none
    | some b => if p n = true ∧ minsT β n d < minsT β b d then some n else some b
def chN (β : BD) (mis t : Nat) (bu : Nat → Nat) (d k : Nat) : Nat → Nat → Option Nat
  | 0, S => some S
  | j + 1, S => match bestE β (pk β mis t bu d k S) d (nE β) with
    | none => none
    | some e => chN β mis t bu d k j (S ||| 2 ^ e)
def chK (β : BD) (mis t : Nat) (bu : Nat → Nat) (d : Nat) : Nat → Option Nat
  | 0 => some 0
  | k + 1 => match chK β mis t bu d k with
    | none => none
    | some S => chN β mis t bu d k (β 105 (3 * d + k)) S
def farN (β : BD) (d S : Nat) : Nat → Nat
  | 0 => 0
  | n + 1 => if S.testBit n = true then Nat.max (farN β d S n) (slotsT β n d) else farN β d S n
def bkN (β : BD) (d S en : Nat) : Nat → Int
  | 0 => -1
  | n + 1 => if S.testBit n = true then max (bkN β d S en n) ((en + slotsT β n d : Nat) : Int) else bkN β d S en n
def offS (β : BD) (d t S : Nat) (q : PL) : PL :=
  let bg := t + farN β d S (nE β)
  let en := bg + β 104 d
  (upZ (pSt q) d 1, upN (pTk q) d S, upZ (pBg q) d bg, upZ (pEn q) d en, upZ (pBk q) d (bkN β d S en (nE β)), (fun e => if decide (e < nE β) && S.testBit e then en + slotsT β e d else pBu q e), pDa q, pDr q - N (β 106 d), pWe q, pDg q)
def ordB (β : BD) (d t : Nat) (q : PL) (k : Nat) : Bool := (β 107 d).testBit k && (!decide (pSt q k = 1) || decide ((t : Int) < pEn q k))
def lau (β : BD) (mis d t : Nat) (q : PL) : PL :=
  if t < β 108 d then setSt q d (-1) else if anyB (ordB β d t q) (nD β) = true then setSt q d (-2) else match chK β mis t (pBu q) d 3 with
  | none => setSt q d (-3)
  | some S => if pDr q < N (β 106 d) then setSt q d (-4) else offS β d t S q
def wetS (β : BD) (t : Nat) (q : PL) : Nat → Int32
  | 0 => pWe q
  | n + 1 => if pEn q n = (t : Int) then wetS β t q n + N (β 106 n) else wetS β t q n
def hanG (β : BD) (pl : Int32) (t : Nat) (q : PL) : Int32 := if pl - (pDg q - pDa q t) < wetS β t q (nD β) then pl - (pDg q - pDa q t) else wetS β t q (nD β)
def hanS (β : BD) (pl : Int32) (t : Nat) (q : PL) : PL :=
  (pSt q, pTk q, pBg q, pEn q, pBk q, pBu q, upW (pDa q) (t + β 0 9) (pDa q (t + β 0 9) + hanG β pl t q), pDr q + pDa q t, wetS β t q (nD β) - hanG β pl t q, pDg q - pDa q t + hanG β pl t q)
def lauN (β : BD) (mis : Nat) (s : Nat → Int) (t : Nat) (q : PL) : Nat → PL
  | 0 => q
  | n + 1 => if s n = (t : Int) then lau β mis n t (lauN β mis s t q n) else lauN β mis s t q n
def slotP (β : BD) (mis : Nat) (pl : Int32) (s : Nat → Int) (t : Nat) (q : PL) : PL := lauN β mis s t (hanS β pl t q) (nD β)
def ini (hz : Int32) : PL := (fun _ => 0, fun _ => 0, fun _ => -1, fun _ => -1, fun _ => -1, fun _ => 0, fun _ => N 0, hz, N 0, N 0)
def run (β : BD) (mis : Nat) (hz pl : Int32) (s : Nat → Int) : Nat → PL
  | 0 => ini hz
  | t + 1 => slotP β mis pl s t (run β mis hz pl s t)
def avN (β : BD) (mis t : Nat) (q : PL) : Nat := mkN (fun e => decide (pBu q e ≤ t) && !mis.testBit e) (nE β)
/-- the reference's cells hold the state -/
def MP (q : PL) (h : AH) : Prop :=
  (∀ d, d < 5 → gI h 118 d = J (pSt q d) ∧ gI h 119 d = N (pTk q d) ∧ gI h 120 d = J (pBg q d) ∧ gI h 121 d = J (pEn q d) ∧ gI h 122 d = J (pBk q d)) ∧
  (∀ e, e < 10 → gI h 123 e = N (pBu q e)) ∧ (∀ k, k < 64 → gI h 128 k = pDa q k) ∧ gI h 89 72 = pDr q ∧ gI h 89 73 = pWe q ∧ gI h 89 74 = pDg q
/-- numbers stay small -/
def PB (q : PL) : Prop := (∀ d, d < 5 → -4 ≤ pSt q d ∧ pSt q d ≤ 1 ∧ -1 ≤ pEn q d ∧ pEn q d ≤ 70 ∧ -1 ≤ pBg q d ∧ pBg q d ≤ 70 ∧ -1 ≤ pBk q d ∧ pBk q d ≤ 80 ∧ pTk q d < 1024) ∧ ∀ e, e < 10 → pBu q e ≤ 80
/-- the timetable's inputs in the reference's cells -/
def MI2 (mis : Nat) (hz pl : Int32) (s : Nat → Int) (h : AH) : Prop := (∀ d, d < 5 → gI h 109 d = J (s d)) ∧ gI h 89 58 = N mis ∧ gI h 89 59 = hz ∧ gI h 89 60 = pl
def SB (s : Nat → Int) : Prop := ∀ d, d < 5 → -1 ≤ s d ∧ s d ≤ 23
