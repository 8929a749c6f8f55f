theorem va_0 {Yt Y : Mm} (h : ∀ n, n < 1947 → Yt 199 n = Y (adr n).1 (adr n).2) {i : Nat} (hi : i < 135) : vi Yt 0 i = vn Y 0 i := by
  show Yt 199 (i) = Y 160 i
  have e := adr_160 hi
  rw [show 0 + 1 * i + 0 = i by omega] at e
  rw [h _ (by omega), e]
theorem va_2 {Yt Y : Mm} (h : ∀ n, n < 1947 → Yt 199 n = Y (adr n).1 (adr n).2) {i : Nat} (hi : i < 16) : vi Yt 2 i = vn Y 2 i := by
  show Yt 199 (145 + 3 * i) = Y 163 i
  have e := adr_163 hi
  rw [show 145 + 3 * i + 0 = 145 + 3 * i by omega] at e
  rw [h _ (by omega), e]
theorem va_3 {Yt Y : Mm} (h : ∀ n, n < 1947 → Yt 199 n = Y (adr n).1 (adr n).2) {i : Nat} (hi : i < 16) : vi Yt 3 i = vn Y 3 i := by
  show Yt 199 (146 + 3 * i) = Y 164 i
  have e := adr_164 hi
  rw [show 145 + 3 * i + 1 = 146 + 3 * i by omega] at e
  rw [h _ (by omega), e]
theorem va_4 {Yt Y : Mm} (h : ∀ n, n < 1947 → Yt 199 n = Y (adr n).1 (adr n).2) {i : Nat} (hi : i < 16) : vi Yt 4 i = vn Y 4 i := by
  show Yt 199 (147 + 3 * i) = Y 165 i
  have e := adr_165 hi
  rw [show 145 + 3 * i + 2 = 147 + 3 * i by omega] at e
  rw [h _ (by omega), e]
theorem va_5 {Yt Y : Mm} (h : ∀ n, n < 1947 → Yt 199 n = Y (adr n).1 (adr n).2) {i : Nat} (hi : i < 8) : vi Yt 5 i = vn Y 5 i := by
  show Yt 199 (193 + 6 * i) = Y 166 i
  have e := adr_166 hi
  rw [show 193 + 6 * i + 0 = 193 + 6 * i by omega] at e
  rw [h _ (by omega), e]
theorem va_6 {Yt Y : Mm} (h : ∀ n, n < 1947 → Yt 199 n = Y (adr n).1 (adr n).2) {i : Nat} (hi : i < 8) : vi Yt 6 i = vn Y 6 i := by
  show Yt 199 (194 + 6 * i) = Y 167 i
  have e := adr_167 hi
  rw [show 193 + 6 * i + 1 = 194 + 6 * i by omega] at e
  rw [h _ (by omega), e]
theorem va_7 {Yt Y : Mm} (h : ∀ n, n < 1947 → Yt 199 n = Y (adr n).1 (adr n).2) {i : Nat} (hi : i < 8) : vi Yt 7 i = vn Y 7 i := by
  show Yt 199 (195 + 6 * i) = Y 179 i
  have e := adr_179 hi
  rw [show 193 + 6 * i + 2 = 195 + 6 * i by omega] at e
  rw [h _ (by omega), e]
theorem va_8 {Yt Y : Mm} (h : ∀ n, n < 1947 → Yt 199 n = Y (adr n).1 (adr n).2) {i : Nat} (hi : i < 8) : vi Yt 8 i = vn Y 8 i := by
  show Yt 199 (196 + 6 * i) = Y 184 i
  have e := adr_184 hi
  rw [show 193 + 6 * i + 3 = 196 + 6 * i by omega] at e
  rw [h _ (by omega), e]
theorem va_9 {Yt Y : Mm} (h : ∀ n, n < 1947 → Yt 199 n = Y (adr n).1 (adr n).2) {i : Nat} (hi : i < 8) : vi Yt 9 i = vn Y 9 i := by
  show Yt 199 (197 + 6 * i) = Y 195 i
  have e := adr_195 hi
  rw [show 193 + 6 * i + 4 = 197 + 6 * i by omega] at e
  rw [h _ (by omega), e]
theorem va_10 {Yt Y : Mm} (h : ∀ n, n < 1947 → Yt 199 n = Y (adr n).1 (adr n).2) {i : Nat} (hi : i < 8) : vi Yt 10 i = vn Y 10 i := by
  show Yt 199 (198 + 6 * i) = Y 196 i
  have e := adr_196 hi
  rw [show 193 + 6 * i + 5 = 198 + 6 * i by omega] at e
  rw [h _ (by omega), e]
theorem va_11 {Yt Y : Mm} (h : ∀ n, n < 1947 → Yt 199 n = Y (adr n).1 (adr n).2) {i : Nat} (hi : i < 6) : vi Yt 11 i = vn Y 11 i := by
  show Yt 199 (241 + i) = Y 187 i
  have e := adr_187 hi
  rw [show 241 + 1 * i + 0 = 241 + i by omega] at e
  rw [h _ (by omega), e]
theorem va_12 {Yt Y : Mm} (h : ∀ n, n < 1947 → Yt 199 n = Y (adr n).1 (adr n).2) {i : Nat} (hi : i < 7) : vi Yt 12 i = vn Y 12 i := by
  show Yt 199 (247 + 2 * i) = Y 193 i
  have e := adr_193 hi
  rw [show 247 + 2 * i + 0 = 247 + 2 * i by omega] at e
  rw [h _ (by omega), e]
theorem va_13 {Yt Y : Mm} (h : ∀ n, n < 1947 → Yt 199 n = Y (adr n).1 (adr n).2) {i : Nat} (hi : i < 7) : vi Yt 13 i = vn Y 13 i := by
  show Yt 199 (248 + 2 * i) = Y 194 i
  have e := adr_194 hi
  rw [show 247 + 2 * i + 1 = 248 + 2 * i by omega] at e
  rw [h _ (by omega), e]
theorem va_14 {Yt Y : Mm} (h : ∀ n, n < 1947 → Yt 199 n = Y (adr n).1 (adr n).2) {i : Nat} (hi : i < 9) : vi Yt 14 i = vn Y 14 i := by
  show Yt 199 (261 + i) = Y 188 i
  have e := adr_188 hi
  rw [show 261 + 1 * i + 0 = 261 + i by omega] at e
  rw [h _ (by omega), e]
theorem va_15 {Yt Y : Mm} (h : ∀ n, n < 1947 → Yt 199 n = Y (adr n).1 (adr n).2) {i : Nat} (hi : i < 20) : vi Yt 15 i = vn Y 15 i := by
  show Yt 199 (270 + i) = Y 197 i
  have e := adr_197 hi
  rw [show 270 + 1 * i + 0 = 270 + i by omega] at e
  rw [h _ (by omega), e]
theorem va_16 {Yt Y : Mm} (h : ∀ n, n < 1947 → Yt 199 n = Y (adr n).1 (adr n).2) {i : Nat} (hi : i < 64) : vi Yt 16 i = vn Y 16 i := by
  show Yt 199 (290 + 3 * i) = Y 190 i
  have e := adr_190 hi
  rw [show 290 + 3 * i + 0 = 290 + 3 * i by omega] at e
  rw [h _ (by omega), e]
theorem va_17 {Yt Y : Mm} (h : ∀ n, n < 1947 → Yt 199 n = Y (adr n).1 (adr n).2) {i : Nat} (hi : i < 64) : vi Yt 17 i = vn Y 17 i := by
  show Yt 199 (291 + 3 * i) = Y 181 i
  have e := adr_181 hi
  rw [show 290 + 3 * i + 1 = 291 + 3 * i by omega] at e
  rw [h _ (by omega), e]
theorem va_18 {Yt Y : Mm} (h : ∀ n, n < 1947 → Yt 199 n = Y (adr n).1 (adr n).2) {i : Nat} (hi : i < 64) : vi Yt 18 i = vn Y 18 i := by
  show Yt 199 (292 + 3 * i) = Y 180 i
  have e := adr_180 hi
  rw [show 290 + 3 * i + 2 = 292 + 3 * i by omega] at e
  rw [h _ (by omega), e]
theorem va_19 {Yt Y : Mm} (h : ∀ n, n < 1947 → Yt 199 n = Y (adr n).1 (adr n).2) {i : Nat} (hi : i < 600) : vi Yt 19 i = vn Y 19 i := by
  show Yt 199 (482 + i) = Y 168 i
  have e := adr_168 hi
  rw [show 482 + 1 * i + 0 = 482 + i by omega] at e
  rw [h _ (by omega), e]
theorem va_21 {Yt Y : Mm} (h : ∀ n, n < 1947 → Yt 199 n = Y (adr n).1 (adr n).2) {i : Nat} (hi : i < 16) : vi Yt 21 i = vn Y 21 i := by
  show Yt 199 (1083 + 4 * i) = Y 172 i
  have e := adr_172 hi
  rw [show 1083 + 4 * i + 0 = 1083 + 4 * i by omega] at e
  rw [h _ (by omega), e]
theorem va_22 {Yt Y : Mm} (h : ∀ n, n < 1947 → Yt 199 n = Y (adr n).1 (adr n).2) {i : Nat} (hi : i < 16) : vi Yt 22 i = vn Y 22 i := by
  show Yt 199 (1084 + 4 * i) = Y 173 i
  have e := adr_173 hi
  rw [show 1083 + 4 * i + 1 = 1084 + 4 * i by omega] at e
  rw [h _ (by omega), e]
theorem va_23 {Yt Y : Mm} (h : ∀ n, n < 1947 → Yt 199 n = Y (adr n).1 (adr n).2) {i : Nat} (hi : i < 16) : vi Yt 23 i = vn Y 23 i := by
  show Yt 199 (1085 + 4 * i) = Y 174 i
  have e := adr_174 hi
  rw [show 1083 + 4 * i + 2 = 1085 + 4 * i by omega] at e
  rw [h _ (by omega), e]
theorem va_24 {Yt Y : Mm} (h : ∀ n, n < 1947 → Yt 199 n = Y (adr n).1 (adr n).2) {i : Nat} (hi : i < 16) : vi Yt 24 i = vn Y 24 i := by
  show Yt 199 (1086 + 4 * i) = Y 175 i
  have e := adr_175 hi
  rw [show 1083 + 4 * i + 3 = 1086 + 4 * i by omega] at e
  rw [h _ (by omega), e]
theorem va_25 {Yt Y : Mm} (h : ∀ n, n < 1947 → Yt 199 n = Y (adr n).1 (adr n).2) {i : Nat} (hi : i < 400) : vi Yt 25 i = vn Y 25 i := by
  show Yt 199 (1147 + 2 * i) = Y 176 i
  have e := adr_176 hi
  rw [show 1147 + 2 * i + 0 = 1147 + 2 * i by omega] at e
  rw [h _ (by omega), e]
theorem va_26 {Yt Y : Mm} (h : ∀ n, n < 1947 → Yt 199 n = Y (adr n).1 (adr n).2) {i : Nat} (hi : i < 400) : vi Yt 26 i = vn Y 26 i := by
  show Yt 199 (1148 + 2 * i) = Y 177 i
  have e := adr_177 hi
  rw [show 1147 + 2 * i + 1 = 1148 + 2 * i by omega] at e
  rw [h _ (by omega), e]
theorem va_20 {Yt Y : Mm} (h : ∀ n, n < 1947 → Yt 199 n = Y (adr n).1 (adr n).2) : vi Yt 20 0 = vn Y 20 0 := by
  show Yt 199 1082 = Y 171 0
  rw [h _ (by omega), adr_171]
theorem va_1_0 {Yt Y : Mm} (h : ∀ n, n < 1947 → Yt 199 n = Y (adr n).1 (adr n).2) : vi Yt 1 0 = vn Y 1 0 := by
  show Yt 199 (135 + 0) = Y 159 6
  rw [h _ (by omega), adr_m 0 (by omega)]
  rfl
theorem va_1_1 {Yt Y : Mm} (h : ∀ n, n < 1947 → Yt 199 n = Y (adr n).1 (adr n).2) : vi Yt 1 1 = vn Y 1 1 := by
  show Yt 199 (135 + 1) = Y 159 7
  rw [h _ (by omega), adr_m 1 (by omega)]
  rfl
theorem va_1_2 {Yt Y : Mm} (h : ∀ n, n < 1947 → Yt 199 n = Y (adr n).1 (adr n).2) : vi Yt 1 2 = vn Y 1 2 := by
  show Yt 199 (135 + 2) = Y 159 37
  rw [h _ (by omega), adr_m 2 (by omega)]
  rfl
theorem va_1_3 {Yt Y : Mm} (h : ∀ n, n < 1947 → Yt 199 n = Y (adr n).1 (adr n).2) : vi Yt 1 3 = vn Y 1 3 := by
  show Yt 199 (135 + 3) = Y 159 39
  rw [h _ (by omega), adr_m 3 (by omega)]
  rfl
theorem va_1_4 {Yt Y : Mm} (h : ∀ n, n < 1947 → Yt 199 n = Y (adr n).1 (adr n).2) : vi Yt 1 4 = vn Y 1 4 := by
  show Yt 199 (135 + 4) = Y 159 41
  rw [h _ (by omega), adr_m 4 (by omega)]
  rfl
theorem va_1_5 {Yt Y : Mm} (h : ∀ n, n < 1947 → Yt 199 n = Y (adr n).1 (adr n).2) : vi Yt 1 5 = vn Y 1 5 := by
  show Yt 199 (135 + 5) = Y 159 51
  rw [h _ (by omega), adr_m 5 (by omega)]
  rfl
theorem va_1_6 {Yt Y : Mm} (h : ∀ n, n < 1947 → Yt 199 n = Y (adr n).1 (adr n).2) : vi Yt 1 6 = vn Y 1 6 := by
  show Yt 199 (135 + 6) = Y 159 53
  rw [h _ (by omega), adr_m 6 (by omega)]
  rfl
theorem va_1_7 {Yt Y : Mm} (h : ∀ n, n < 1947 → Yt 199 n = Y (adr n).1 (adr n).2) : vi Yt 1 7 = vn Y 1 7 := by
  show Yt 199 (135 + 7) = Y 159 59
  rw [h _ (by omega), adr_m 7 (by omega)]
  rfl
theorem va_1_8 {Yt Y : Mm} (h : ∀ n, n < 1947 → Yt 199 n = Y (adr n).1 (adr n).2) : vi Yt 1 8 = vn Y 1 8 := by
  show Yt 199 (135 + 8) = Y 159 62
  rw [h _ (by omega), adr_m 8 (by omega)]
  rfl
theorem va_1_9 {Yt Y : Mm} (h : ∀ n, n < 1947 → Yt 199 n = Y (adr n).1 (adr n).2) : vi Yt 1 9 = vn Y 1 9 := by
  show Yt 199 (135 + 9) = Y 159 65
  rw [h _ (by omega), adr_m 9 (by omega)]
  rfl
/-- the image's places_v and the cells_v -/
theorem vi_adr {Yt Y : Mm} (h : ∀ n, n < 1947 → Yt 199 n = Y (adr n).1 (adr n).2) : ∀ g i, vpl g i → vi Yt g i = vn Y g i := by
  intro g i hv
  unfold vpl at hv
  rcases hv with ⟨rfl, hi⟩ | ⟨rfl, hi⟩ | ⟨h1, h2, hi⟩ | ⟨h1, h2, hi⟩ | ⟨rfl, hi⟩ | ⟨h1, h2, hi⟩ | ⟨rfl, hi⟩ | ⟨rfl, hi⟩ | ⟨h1, h2, hi⟩ | ⟨rfl, hi⟩ | ⟨rfl, rfl⟩ | ⟨h1, h2, hi⟩ | ⟨h1, h2, hi⟩
  · exact va_0 h hi
  · rcases (by omega : i = 0 ∨ i = 1 ∨ i = 2 ∨ i = 3 ∨ i = 4 ∨ i = 5 ∨ i = 6 ∨ i = 7 ∨ i = 8 ∨ i = 9) with rfl | rfl | rfl | rfl | rfl | rfl | rfl | rfl | rfl | rfl
    · exact va_1_0 h
    · exact va_1_1 h
    · exact va_1_2 h
    · exact va_1_3 h
    · exact va_1_4 h
    · exact va_1_5 h
    · exact va_1_6 h
    · exact va_1_7 h
    · exact va_1_8 h
    · exact va_1_9 h
  · rcases (by omega : g = 2 ∨ g = 3 ∨ g = 4) with rfl | rfl | rfl
    · exact va_2 h hi
    · exact va_3 h hi
    · exact va_4 h hi
  · rcases (by omega : g = 5 ∨ g = 6 ∨ g = 7 ∨ g = 8 ∨ g = 9 ∨ g = 10) with rfl | rfl | rfl | rfl | rfl | rfl
    · exact va_5 h hi
    · exact va_6 h hi
    · exact va_7 h hi
    · exact va_8 h hi
    · exact va_9 h hi
    · exact va_10 h hi
  · exact va_11 h hi
  · rcases (by omega : g = 12 ∨ g = 13) with rfl | rfl
    · exact va_12 h hi
    · exact va_13 h hi
  · exact va_14 h hi
  · exact va_15 h hi
  · rcases (by omega : g = 16 ∨ g = 17 ∨ g = 18) with rfl | rfl | rfl
    · exact va_16 h hi
    · exact va_17 h hi
    · exact va_18 h hi
  · exact va_19 h hi
  · exact va_20 h
  · rcases (by omega : g = 21 ∨ g = 22 ∨ g = 23 ∨ g = 24) with rfl | rfl | rfl | rfl
    · exact va_21 h hi
    · exact va_22 h hi
    · exact va_23 h hi
    · exact va_24 h hi
  · rcases (by omega : g = 25 ∨ g = 26) with rfl | rfl
    · exact va_25 h hi
    · exact va_26 h hi
