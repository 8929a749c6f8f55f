/-! PURE: the class's memory and the model's -/
theorem mu (M : Mm) (k i : Nat) (x : Int32) (a j : Nat) : m_up M k i x a j = if a = k ∧ j = i then x else M a j := by
  unfold m_up upd
  by_cases ha : a = k
  · subst ha
    by_cases hj : j = i
    · simp [hj]
    · simp [hj]
  · simp [ha]
/-- a small number -/
def sm (x : Int32) (n : Nat) : Prop := ∃ k : Nat, k ≤ n ∧ x = nI k
/-- a quay q of the class and a row of the model's; N: how many calls there were -/
def IQ (N : Nat) (M : Mm) (q : Nat) (row : Nat → Int32) : Prop :=
  (row 0 = M q 10 ∧ row 1 = M q 6 ∧ row 2 = M q 12 ∧ row 3 = M q 7 ∧ row 4 = M q 8 ∧ row 5 = M q 9 ∧ row 6 = M q 11) ∧
  (∀ i, i < 16 → row (7 + i) = M (q + 1) i + 1 ∧ row (23 + i) = M (q + 2) i + 1 ∧ row (39 + i) = M (q + 3) i) ∧
  (∀ i, i < 8 → row (55 + i) = M (q + 4) i ∧ row (63 + i) = M (q + 5) i) ∧ (∀ i, i < 64 → row (71 + i) = M (q + 6) i)
/-- what a quay's numbers keep to; N: how many sales there were at most; np, nb: how many parcels and bidders there are -/
def WQ (N np nb : Nat) (M : Mm) (q : Nat) : Prop :=
  (((∀ i, i < 16 → sm (M (q + 1) i + 1) 8 ∧ sm (M (q + 3) i) 99) ∧ ∀ i, i < 8 → sm (M (q + 4) i) 9999) ∧ sm (M q 12) 150 ∧ sm (M q 8) 99 ∧ sm (M q 9) 9) ∧
  (∀ i, i < 8 → sm (M (q + 5) i) (100 * N)) ∧ (∀ i, i < 64 → sm (M (q + 6) i) N) ∧
  (∀ i, np ≤ i → i < 16 → M (q + 1) i = -1 ∧ M (q + 2) i = -1 ∧ M (q + 3) i = 0) ∧
  (∀ i, nb ≤ i → i < 8 → M (q + 5) i = 0) ∧ (∀ i, 8 * nb ≤ i → i < 64 → M (q + 6) i = 0)
/-- a view of the model's state: group, place -/
abbrev Vw : Type := Nat → Nat → Int32
/-- the cast -/
def IC (np nb : Nat) (M : Mm) (w : Nat) (v : Vw) : Prop :=
  (v 1 0 = M (w + 1) 0 ∧ v 1 1 = M (w + 1) 1 ∧ M (w + 1) 0 = nI np ∧ M (w + 1) 1 = nI nb ∧ np ≤ 16 ∧ nb ≤ 8) ∧
  (∀ i, i < 16 → v 2 i = M (w + 2) i ∧ v 3 i = M (w + 3) i ∧ v 4 i = M (w + 4) i ∧ sm (M (w + 2) i) 99 ∧ sm (M (w + 4) i) 9) ∧
  (∀ i, i < 8 → v 5 i = M (w + 5) i ∧ v 6 i = M (w + 6) i ∧ (M (w + 6) i = 0 ∨ M (w + 6) i = 1))
/-- what is told for thought -/
def IT (M : Mm) (w : Nat) (v : Vw) : Prop :=
  (∀ i, i < 8 → v 8 i = M (w + 30) i ∧ sm (M (w + 30) i) (if i = 0 then 0 else 99)) ∧
  (v 1 6 = M (w + 29) 9 ∧ sm (M (w + 29) 9) 9 ∧ ∀ i, i < 9 → v 14 i = M (w + 31) i ∧ sm (M (w + 31) i) 60 ∧ (nI i < M (w + 29) 9 → ¬ M (w + 31) i = 0)) ∧
  (v 1 5 = M (w + 29) 10 ∧ sm (M (w + 29) 10) 6 ∧ ∀ i, i < 6 → v 11 i = M (w + 32) i ∧ sm (M (w + 32) i) 50 ∧ (nI i < M (w + 29) 10 → ¬ M (w + 32) i = 0)) ∧
  (∀ i, i < 64 → v 16 i + nI (i % 8) = M (w + 33) i ∧ sm (M (w + 33) i) 7) ∧ (∀ b t, b < 8 → t < 8 → ∃ k, k < 8 ∧ M (w + 33) (8 * b + k) = nI t) ∧
  (v 1 7 = M (w + 29) 11 ∧ sm (M (w + 29) 11) 7 ∧ ∀ i, i < 7 → v 12 i = M (w + 34) i ∧ v 13 i = M (w + 35) i ∧ sm (M (w + 34) i) 99 ∧ sm (M (w + 35) i) 9) ∧
  (v 1 8 = M (w + 29) 12 ∧ sm (M (w + 29) 12) 8 ∧ ∀ i, i < 8 → v 9 i = M (w + 36) i ∧ v 10 i = M (w + 37) i ∧ sm (M (w + 36) i) 65535) ∧
  (v 1 9 = M (w + 29) 13 ∧ sm (M (w + 29) 13) 20 ∧ ∀ i, i < 20 → v 15 i = M (w + 38) i ∧ sm (M (w + 38) i) 999)
/-- an act of a week's line: the class's word, the model's number, who and how much on both sides -/
def actR (np nb : Nat) (act who much what a3 a4 : Int32) : Prop :=
  (act = 278 ∧ what = 0 ∧ a3 = who ∧ a4 = 0 ∧ ∃ k, k < np ∧ who = nI k) ∨ (act = 272 ∧ what = 1 ∧ a3 = much ∧ a4 = 0 ∧ sm much 9) ∨
  (act = 271 ∧ what = 2 ∧ a3 = much ∧ a4 = 0 ∧ sm much 99) ∨ (act = 279 ∧ what = 3 ∧ a3 = 0 ∧ a4 = 0) ∨
  (act = 280 ∧ what = 4 ∧ a3 = who ∧ a4 = much ∧ (∃ k, k < np ∧ who = nI k) ∧ sm much 99) ∨ (act = 281 ∧ what = 5 ∧ a3 = who ∧ a4 = much ∧ (∃ k, k < nb ∧ who = nI k) ∧ sm much 999)
/-- the three plain texts -/
def IP (np nb : Nat) (M : Mm) (w : Nat) (v : Vw) : Prop :=
  (v 1 2 = M (w + 22) 6 ∧ v 1 4 = M (w + 22) 7 ∧ v 1 3 = M (w + 22) 8 ∧ sm (M (w + 22) 8) 16) ∧
  (∀ i, i < 8 → v 7 i = M (w + 23) i + 1) ∧ (∀ i, i < 64 → v 17 i = M (w + 24) i ∧ sm (M (w + 24) i) 99) ∧ (∀ b, b < 8 → M (w + 24) (8 * b) = 0) ∧
  (∀ i, i < 16 → nI i < M (w + 22) 8 → v 18 (4 * i) = M (w + 25) i ∧ actR np nb (M (w + 26) i) (M (w + 27) i) (M (w + 28) i) (v 18 (4 * i + 1)) (v 18 (4 * i + 2)) (v 18 (4 * i + 3)))
/-- one code of the law: the class's, the model's op and arg -/
def codR (c op arg : Int32) : Prop :=
  (op = 0 ∧ sm arg 9999 ∧ c = arg) ∨ (op = 1 ∧ sm arg 11 ∧ c = 10000 + arg) ∨ (op = 2 ∧ c = 20043) ∨ (op = 3 ∧ c = 20045) ∨ (op = 4 ∧ c = 20042) ∨ (op = 5 ∧ c = 20047) ∨
  (op = 6 ∧ c = 20060) ∨ (op = 7 ∧ c = 20061) ∨ (op = 8 ∧ c = 20062) ∨ (op = 9 ∧ c = 20262) ∨ (op = 10 ∧ c = 20261) ∨ (op = 11 ∧ c = 20260)
/-- one code of an expression: the kinds of what stands on the stack before it and behind it (true: a yes or no) -/
def stp (op arg : Nat → Int32) (k : Nat) (u t : List Bool) : Prop :=
  ((op k = 0 ∨ op k = 1) ∧ u.length ≤ 30 ∧ t = false :: u) ∨
  ((op k = 2 ∨ op k = 3 ∨ op k = 4) ∧ ∃ s, u = false :: false :: s ∧ t = false :: s) ∨
  (op k = 5 ∧ 1 ≤ k ∧ op (k - 1) = 0 ∧ ¬ arg (k - 1) = 0 ∧ ∃ s, u = false :: false :: s ∧ t = false :: s) ∨
  ((op k = 6 ∨ op k = 7 ∨ op k = 8) ∧ ∃ s, u = false :: false :: s ∧ t = true :: s) ∨
  (op k = 9 ∧ ∃ s, u = true :: s ∧ t = true :: s) ∨
  ((op k = 10 ∨ op k = 11) ∧ ∃ s, u = true :: true :: s ∧ t = true :: s)
/-- m codes from k on -/
def sgF (op arg : Nat → Int32) : Nat → Nat → List Bool → List Bool → Prop
  | 0, _, u, t => u = t
  | m + 1, k, u, t => ∃ u', stp op arg k u u' ∧ sgF op arg m (k + 1) u' t
/-- codes a .. b are an expression -/
def wfx (op arg : Nat → Int32) (a b : Nat) : Prop := a < b → ∃ t, sgF op arg (b - a) a [] [t]
/-- the law -/
def IL (M : Mm) (w : Nat) (v : Vw) : Prop :=
  ∃ nl nz : Nat, nl ≤ 16 ∧ nz ≤ 400 ∧ v 20 0 = nI nl ∧ M (w + 15) 7 = nI nl ∧ M (w + 15) 6 = nI nz ∧
  (∀ i, i < nz → codR (M (w + 16) i) (v 25 i) (v 26 i)) ∧
  ∃ fr wh en : Nat → Nat, fr 0 = 0 ∧ (∀ l, fr (l + 1) = en l) ∧ ∀ l, l < nl → fr l < wh l ∧ wh l ≤ en l ∧ en l ≤ nz ∧
    (∃ k : Nat, k < 3 ∧ v 21 l = nI k ∧ M (w + 17) l = nI (256 + k)) ∧ v 22 l = nI (fr l) ∧ v 23 l = nI (wh l) ∧ v 24 l = nI (en l) ∧ M (w + 18) l = nI (wh l) ∧ M (w + 19) l = nI (en l) ∧
    wfx (v 25) (v 26) (fr l) (wh l) ∧ wfx (v 25) (v 26) (wh l) (en l)
/-- a whole w of the class and a view of the model's state -/
def IW (N np nb : Nat) (M : Mm) (w : Nat) (v : Vw) : Prop := IC np nb M w v ∧ (IQ N M (w + 7) (v 0) ∧ WQ N np nb M (w + 7)) ∧ (∀ i, i < 600 → v 19 i = M (w + 14) i) ∧ IL M w v ∧ IP np nb M w v ∧ IT M w v
/-- the model's state now -/
def vn (M : Mm) : Vw := fun g i => match g with
  | 0 => M 160 i
  | 1 => (match i with | 0 => M 159 6 | 1 => M 159 7 | 2 => M 159 37 | 3 => M 159 39 | 4 => M 159 41 | 5 => M 159 51 | 6 => M 159 53 | 7 => M 159 59 | 8 => M 159 62 | _ => M 159 65)
  | 2 => M 163 i
  | 3 => M 164 i
  | 4 => M 165 i
  | 5 => M 166 i
  | 6 => M 167 i
  | 7 => M 179 i
  | 8 => M 184 i
  | 9 => M 195 i
  | 10 => M 196 i
  | 11 => M 187 i
  | 12 => M 193 i
  | 13 => M 194 i
  | 14 => M 188 i
  | 15 => M 197 i
  | 16 => M 190 i
  | 17 => M 181 i
  | 18 => M 180 i
  | 19 => M 168 i
  | 20 => M 171 i
  | 21 => M 172 i
  | 22 => M 173 i
  | 23 => M 174 i
  | 24 => M 175 i
  | 25 => M 176 i
  | _ => M 177 i
/-- the model's image -/
def vi (M : Mm) : Vw := fun g i => match g with
  | 0 => M 199 i
  | 1 => M 199 (135 + i)
  | 2 => M 199 (145 + 3 * i)
  | 3 => M 199 (146 + 3 * i)
  | 4 => M 199 (147 + 3 * i)
  | 5 => M 199 (193 + 6 * i)
  | 6 => M 199 (194 + 6 * i)
  | 7 => M 199 (195 + 6 * i)
  | 8 => M 199 (196 + 6 * i)
  | 9 => M 199 (197 + 6 * i)
  | 10 => M 199 (198 + 6 * i)
  | 11 => M 199 (241 + i)
  | 12 => M 199 (247 + 2 * i)
  | 13 => M 199 (248 + 2 * i)
  | 14 => M 199 (261 + i)
  | 15 => M 199 (270 + i)
  | 16 => M 199 (290 + 3 * i)
  | 17 => M 199 (291 + 3 * i)
  | 18 => M 199 (292 + 3 * i)
  | 19 => M 199 (482 + i)
  | 20 => M 199 1082
  | 21 => M 199 (1083 + 4 * i)
  | 22 => M 199 (1084 + 4 * i)
  | 23 => M 199 (1085 + 4 * i)
  | 24 => M 199 (1086 + 4 * i)
  | 25 => M 199 (1147 + 2 * i)
  | _ => M 199 (1148 + 2 * i)
/-- what can be undone -/
def IU (N np nb : Nat) (M : Mm) : Prop := ∃ f c : Nat, f < 6 ∧ c ≤ 6 ∧ M 79 1 = nI f ∧ M 79 2 = nI c ∧ M 159 3 = nI c ∧ ∀ i, i < c → IQ N M (qr ((f + i) % 6)) (fun k => M 161 (135 * i + k)) ∧ WQ N np nb M (qr ((f + i) % 6))
/-- the model's words -/
def wd_t (i : Nat) : Int32 := ([32, 98, 105, 100, 115, 32, 115, 116, 101, 112, 32, 102, 117, 108, 108, 32, 119, 104, 101, 110, 32, 111, 114, 32, 97, 110, 100, 32, 110, 111, 116, 32, 119, 101, 105, 103, 104, 116, 32, 114, 97, 116, 116, 108, 101, 32, 107, 110, 111, 116, 115, 32, 99, 97, 114, 101, 32, 115, 104, 105, 108, 108, 32, 112, 117, 114, 115, 101, 32, 112, 114, 105, 99, 101, 32, 114, 111, 117, 110, 100, 32, 99, 114, 111, 119, 100, 32, 119, 101, 116, 32, 104, 97, 115, 32, 100, 97, 121, 32, 98, 105, 100, 100, 101, 114, 32, 102, 111, 108, 108, 111, 119, 115, 32, 111, 110, 32, 115, 101, 108, 108, 32, 112, 111, 108, 105, 99, 101, 32, 98, 105, 108, 108, 32, 112, 97, 121, 32, 119, 97, 110, 116, 115, 32, 102, 111, 114, 32] : List Int32).getD i 0
/-- the tape, the fault, the image -/
def IX (N : Nat) (M : Mm) : Prop :=
  (∃ k : Nat, k ≤ 400 ∧ M 132 1 = nI k ∧ M 159 15 = nI k) ∧ (∀ i, i < 400 → M 169 i = M 133 i ∧ sm (M 133 i) 255 ∧ M 170 i = wd_t i) ∧ M 159 35 = M 0 10 ∧ M 159 36 = M 0 11 ∧ M 159 5 = 0 ∧ M 130 5 = 0 ∧ M 131 5 = 1 ∧
  (M 159 69 = M 0 9 ∧ (M 0 9 = 0 ∨ M 0 9 = 1)) ∧ (M 0 9 = 1 → ∃ np nb : Nat, IW N np nb M 40 (vi M))
/-- all that class and model have in common between two calls -/
def Inv (N : Nat) (M : Mm) : Prop := ∃ np nb : Nat, IW N np nb M 1 (vn M) ∧ IU N np nb M ∧ IX N M
