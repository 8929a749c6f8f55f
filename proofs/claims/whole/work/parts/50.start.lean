def SHc : List fx_S := SH.take 159
theorem SHc_len : SHc.length = 159 := by decide +kernel
def M0 : Mm := CM_Model 159 (CM_MockParcels 0 (fun _ _ => 0))
theorem hs_c : ([] ++ []) ++ [.inr (.inr (11, [0 + 0 + 1 + 2, 0 + 0 + 40 + 2, 0 + 0 + 79 + 2, 0 + 0 + 123 + 2, 0 + 0 + 130 + 2, 0 + 0 + 131 + 2, 0 + 0 + 132 + 2, 0 + 0 + 136 + 2, 0 + 0 + 151 + 2, 0, 0, 0])), .inr (.inr (10, [0 + 0 + 2 + 2, 0 + 0 + 8 + 2, 0 + 0 + 15 + 2, 0 + 0 + 16 + 2, 0 + 0 + 23 + 2, 0 + 0 + 30 + 2])), .inr (.inr (1, [0, 0, 0 + 0 + 3 + 2, 0 + 0 + 4 + 2, 0 + 0 + 5 + 2, 0 + 0 + 6 + 2, 0 + 0 + 7 + 2])), .inl 16, .inl 16, .inl 16, .inl 8, .inl 8, .inr (.inr (6, [0 + 0 + 9 + 2, 0 + 0 + 10 + 2, 0 + 0 + 11 + 2, 0 + 0 + 12 + 2, 0 + 0 + 13 + 2, 0 + 0 + 14 + 2, 0, 0, 0, 0, 0, 0, 0])), .inl 16, .inl 16, .inl 16, .inl 8, .inl 8, .inl 64, .inl 600, .inr (.inr (2, [0 + 0 + 17 + 2, 0 + 0 + 18 + 2, 0 + 0 + 19 + 2, 0 + 0 + 20 + 2, 0 + 0 + 21 + 2, 0 + 0 + 22 + 2, 0, 0])), .inl 400, .inl 16, .inl 16, .inl 16, .inl 12, .inl 32, .inr (.inr (5, [0 + 0 + 24 + 2, 0 + 0 + 25 + 2, 0 + 0 + 26 + 2, 0 + 0 + 27 + 2, 0 + 0 + 28 + 2, 0 + 0 + 29 + 2, 0, 0, 0])), .inl 8, .inl 64, .inl 16, .inl 16, .inl 16, .inl 16, .inr (.inr (9, [0 + 0 + 31 + 2, 0 + 0 + 32 + 2, 0 + 0 + 33 + 2, 0 + 0 + 34 + 2, 0 + 0 + 35 + 2, 0 + 0 + 36 + 2, 0 + 0 + 37 + 2, 0 + 0 + 38 + 2, 0 + 0 + 39 + 2, 0, 0, 0, 0, 0])), .inl 8, .inl 9, .inl 6, .inl 64, .inl 7, .inl 7, .inl 8, .inl 8, .inl 20, .inr (.inr (10, [0 + 0 + 41 + 2, 0 + 0 + 47 + 2, 0 + 0 + 54 + 2, 0 + 0 + 55 + 2, 0 + 0 + 62 + 2, 0 + 0 + 69 + 2])), .inr (.inr (1, [0, 0, 0 + 0 + 42 + 2, 0 + 0 + 43 + 2, 0 + 0 + 44 + 2, 0 + 0 + 45 + 2, 0 + 0 + 46 + 2])), .inl 16, .inl 16, .inl 16, .inl 8, .inl 8, .inr (.inr (6, [0 + 0 + 48 + 2, 0 + 0 + 49 + 2, 0 + 0 + 50 + 2, 0 + 0 + 51 + 2, 0 + 0 + 52 + 2, 0 + 0 + 53 + 2, 0, 0, 0, 0, 0, 0, 0])), .inl 16, .inl 16, .inl 16, .inl 8, .inl 8, .inl 64, .inl 600, .inr (.inr (2, [0 + 0 + 56 + 2, 0 + 0 + 57 + 2, 0 + 0 + 58 + 2, 0 + 0 + 59 + 2, 0 + 0 + 60 + 2, 0 + 0 + 61 + 2, 0, 0])), .inl 400, .inl 16, .inl 16, .inl 16, .inl 12, .inl 32, .inr (.inr (5, [0 + 0 + 63 + 2, 0 + 0 + 64 + 2, 0 + 0 + 65 + 2, 0 + 0 + 66 + 2, 0 + 0 + 67 + 2, 0 + 0 + 68 + 2, 0, 0, 0])), .inl 8, .inl 64, .inl 16, .inl 16, .inl 16, .inl 16, .inr (.inr (9, [0 + 0 + 70 + 2, 0 + 0 + 71 + 2, 0 + 0 + 72 + 2, 0 + 0 + 73 + 2, 0 + 0 + 74 + 2, 0 + 0 + 75 + 2, 0 + 0 + 76 + 2, 0 + 0 + 77 + 2, 0 + 0 + 78 + 2, 0, 0, 0, 0, 0])), .inl 8, .inl 9, .inl 6, .inl 64, .inl 7, .inl 7, .inl 8, .inl 8, .inl 20, .inr (.inr (4, [0 + 0 + 80 + 2, 0, 0])), .inr (.inl [0 + 0 + 81 + 1, 0 + 0 + 88 + 1, 0 + 0 + 95 + 1, 0 + 0 + 102 + 1, 0 + 0 + 109 + 1, 0 + 0 + 116 + 1]), .inr (.inr (6, [0 + 0 + 82 + 2, 0 + 0 + 83 + 2, 0 + 0 + 84 + 2, 0 + 0 + 85 + 2, 0 + 0 + 86 + 2, 0 + 0 + 87 + 2, 0, 0, 0, 0, 0, 0, 0])), .inl 16, .inl 16, .inl 16, .inl 8, .inl 8, .inl 64, .inr (.inr (6, [0 + 0 + 89 + 2, 0 + 0 + 90 + 2, 0 + 0 + 91 + 2, 0 + 0 + 92 + 2, 0 + 0 + 93 + 2, 0 + 0 + 94 + 2, 0, 0, 0, 0, 0, 0, 0])), .inl 16, .inl 16, .inl 16, .inl 8, .inl 8, .inl 64, .inr (.inr (6, [0 + 0 + 96 + 2, 0 + 0 + 97 + 2, 0 + 0 + 98 + 2, 0 + 0 + 99 + 2, 0 + 0 + 100 + 2, 0 + 0 + 101 + 2, 0, 0, 0, 0, 0, 0, 0])), .inl 16, .inl 16, .inl 16, .inl 8, .inl 8, .inl 64, .inr (.inr (6, [0 + 0 + 103 + 2, 0 + 0 + 104 + 2, 0 + 0 + 105 + 2, 0 + 0 + 106 + 2, 0 + 0 + 107 + 2, 0 + 0 + 108 + 2, 0, 0, 0, 0, 0, 0, 0])), .inl 16, .inl 16, .inl 16, .inl 8, .inl 8, .inl 64, .inr (.inr (6, [0 + 0 + 110 + 2, 0 + 0 + 111 + 2, 0 + 0 + 112 + 2, 0 + 0 + 113 + 2, 0 + 0 + 114 + 2, 0 + 0 + 115 + 2, 0, 0, 0, 0, 0, 0, 0])), .inl 16, .inl 16, .inl 16, .inl 8, .inl 8, .inl 64, .inr (.inr (6, [0 + 0 + 117 + 2, 0 + 0 + 118 + 2, 0 + 0 + 119 + 2, 0 + 0 + 120 + 2, 0 + 0 + 121 + 2, 0 + 0 + 122 + 2, 0, 0, 0, 0, 0, 0, 0])), .inl 16, .inl 16, .inl 16, .inl 8, .inl 8, .inl 64, .inr (.inr (6, [0 + 0 + 124 + 2, 0 + 0 + 125 + 2, 0 + 0 + 126 + 2, 0 + 0 + 127 + 2, 0 + 0 + 128 + 2, 0 + 0 + 129 + 2, 0, 0, 0, 0, 0, 0, 0])), .inl 16, .inl 16, .inl 16, .inl 8, .inl 8, .inl 64, .inr (.inr (0, [0 + 0 + 2 + 2, 0 + 0 + 16 + 2, 0 + 0 + 23 + 2, 0 + 0 + 15 + 2, 0 + 0 + 8 + 2, 0, 0, 0, 0])), .inr (.inr (0, [0 + 0 + 2 + 2, 0 + 0 + 16 + 2, 0 + 0 + 23 + 2, 0 + 0 + 15 + 2, 0 + 0 + 123 + 2, 0, 0, 0, 0])), .inr (.inr (7, [0 + 0 + 133 + 2, 0, 0 + 0 + 134 + 2, 0 + 0 + 135 + 2, 0, 0, 0, 0, 0])), .inl 400, .inl 401, .inl 401, .inr (.inr (3, [0 + 0 + 137 + 2, 0 + 0 + 144 + 2, 0 + 0 + 132 + 2, 0, 0])), .inr (.inr (2, [0 + 0 + 138 + 2, 0 + 0 + 139 + 2, 0 + 0 + 140 + 2, 0 + 0 + 141 + 2, 0 + 0 + 142 + 2, 0 + 0 + 143 + 2, 0, 0])), .inl 400, .inl 16, .inl 16, .inl 16, .inl 12, .inl 32, .inr (.inr (5, [0 + 0 + 145 + 2, 0 + 0 + 146 + 2, 0 + 0 + 147 + 2, 0 + 0 + 148 + 2, 0 + 0 + 149 + 2, 0 + 0 + 150 + 2, 0, 0, 0])), .inl 8, .inl 64, .inl 16, .inl 16, .inl 16, .inl 16, .inr (.inr (8, [0 + 0 + 152 + 2, 0 + 0 + 153 + 2, 0 + 0 + 154 + 2, 0 + 0 + 155 + 2, 0 + 0 + 156 + 2, 0 + 0 + 157 + 2, 0 + 0 + 158 + 2])), .inl 1000, .inl 1000, .inl 8, .inl 512, .inl 1152, .inl 16, .inl 8] = SHc ++ [] := by decide +kernel
theorem hs_m : (SHc ++ []) ++ [.inr (.inr (12, [0, 159 + 0 + 1 + 2, 159 + 0 + 2 + 2, 0, 159 + 0 + 3 + 2, 0, 0, 0, 159 + 0 + 4 + 2, 159 + 0 + 5 + 2, 159 + 0 + 6 + 2, 159 + 0 + 7 + 2, 159 + 0 + 8 + 2, 159 + 0 + 9 + 2, 159 + 0 + 10 + 2, 0, 0, 0, 0, 0, 159 + 0 + 11 + 2, 159 + 0 + 12 + 2, 159 + 0 + 13 + 2, 159 + 0 + 14 + 2, 159 + 0 + 15 + 2, 159 + 0 + 16 + 2, 159 + 0 + 17 + 2, 159 + 0 + 18 + 2, 0, 0, 0, 159 + 0 + 19 + 2, 0, 0, 0, 0, 0, 0, 159 + 0 + 20 + 2, 0, 159 + 0 + 21 + 2, 0, 159 + 0 + 22 + 2, 159 + 0 + 23 + 2, 159 + 0 + 24 + 2, 0, 0, 0, 159 + 0 + 25 + 2, 159 + 0 + 26 + 2, 159 + 0 + 27 + 2, 0, 159 + 0 + 28 + 2, 0, 159 + 0 + 29 + 2, 159 + 0 + 30 + 2, 159 + 0 + 31 + 2, 159 + 0 + 32 + 2, 159 + 0 + 33 + 2, 0, 159 + 0 + 34 + 2, 159 + 0 + 35 + 2, 0, 159 + 0 + 36 + 2, 159 + 0 + 37 + 2, 0, 159 + 0 + 38 + 2, 159 + 0 + 39 + 2, 0, 0, 0, 159 + 0 + 40 + 2])), .inl 135, .inl 810, .inl 135, .inl 16, .inl 16, .inl 16, .inl 8, .inl 8, .inl 600, .inl 400, .inl 148, .inl 2, .inl 48, .inl 48, .inl 48, .inl 48, .inl 1200, .inl 1200, .inl 40, .inl 16, .inl 128, .inl 128, .inl 12, .inl 420, .inl 8, .inl 1000, .inl 1000, .inl 6, .inl 9, .inl 512, .inl 64, .inl 8, .inl 1152, .inl 7, .inl 7, .inl 8, .inl 8, .inl 20, .inl 10, .inl 2300] = SH := by decide +kernel
set_option maxHeartbeats 8000000 in
set_option maxRecDepth 100000 in
theorem whole_open (hpure : ∀ (L : Nat) (xs : Nat → Int32), L ≤ 3072 → T_L_law_18 L xs 5000 0 M0) {p : Program} {e : Env} {s : State} {m : MethodId} {below : List Frame} {meth : Method} {c : Code} (l : Launch) {b L : Nat} {xs : Nat → Int32} (hL : L ≤ 3072) (C0 : lw_At p s m meth c b L xs) : W p l e room_1 s m #[Value.ref b] below meth c s.heap [] 0 0 (lw_Z below #[Value.ref b] s) (entryFrame m ([Value.ref b] : List Value).toArray 4) := by
  obtain ⟨hx, hb, hr, hml, hown, hts, hX, hbl, hlocks, hgv⟩ := id C0
  have htf : ∀ w ∈ fx_all, w.before #[Value.ref b] s = true := fun w h => hts w (fx_sub w h)
  obtain ⟨c0, iS0, hKn0⟩ := u_known (C := RX0) (T := TX0) (N := 9) (n := 9) htf inX0 (htf _ (fx_s2 (List.mem_of_getElem? (i := 122) rfl) rfl))
  obtain ⟨c1, iS1, hKn1⟩ := u_known (C := RX1) (T := TX1) (N := 7) (n := 7) htf inX1 (htf _ (fx_s1 (List.mem_of_getElem? (i := 36) rfl) rfl))
  obtain ⟨c2, iS2, hKn2⟩ := u_known (C := RX2) (T := TX2) (N := 8) (n := 8) htf inX2 (htf _ (fx_s1 (List.mem_of_getElem? (i := 157) rfl) rfl))
  obtain ⟨c3, iS3, hKn3⟩ := u_known (C := RX3) (T := TX3) (N := 5) (n := 5) htf inX3 (htf _ (fx_s2 (List.mem_of_getElem? (i := 197) rfl) rfl))
  obtain ⟨c4, iS4, hKn4⟩ := u_known (C := RX4) (T := TX4) (N := 3) (n := 3) htf inX4 (htf _ (fx_s2 (List.mem_of_getElem? (i := 100) rfl) rfl))
  obtain ⟨c5, iS5, hKn5⟩ := u_known (C := RX5) (T := TX5) (N := 9) (n := 9) htf inX5 (htf _ (fx_s1 (List.mem_of_getElem? (i := 191) rfl) rfl))
  obtain ⟨c6, iS6, hKn6⟩ := u_known (C := RX6) (T := TX6) (N := 13) (n := 13) htf inX6 (htf _ (fx_s1 (List.mem_of_getElem? (i := 82) rfl) rfl))
  obtain ⟨c7, iS7, hKn7⟩ := u_known (C := RX7) (T := TX7) (N := 9) (n := 9) htf inX7 (htf _ (fx_s2 (List.mem_of_getElem? (i := 159) rfl) rfl))
  obtain ⟨c8, iS8, hKn8⟩ := u_known (C := RX8) (T := TX8) (N := 7) (n := 7) htf inX8 (htf _ (fx_s2 (List.mem_of_getElem? (i := 225) rfl) rfl))
  obtain ⟨c9, iS9, hKn9⟩ := u_known (C := RX9) (T := TX9) (N := 14) (n := 14) htf inX9 (htf _ (fx_s1 (List.mem_of_getElem? (i := 238) rfl) rfl))
  obtain ⟨c10, iS10, hKn10⟩ := u_known (C := RX10) (T := TX10) (N := 6) (n := 6) htf inX10 (htf _ (fx_s1 (List.mem_of_getElem? (i := 30) rfl) rfl))
  obtain ⟨c11, iS11, hKn11⟩ := u_known (C := RX11) (T := TX11) (N := 12) (n := 12) htf inX11 (htf _ (fx_s1 (List.mem_of_getElem? (i := 22) rfl) rfl))
  obtain ⟨c12, iS12, hKn12⟩ := u_known (C := RX12) (T := TX12) (N := 72) (n := 72) htf inX12 (htf _ (fx_s6 (List.mem_of_getElem? (i := 83) rfl) rfl))
  obtain ⟨dC, dI, hKc⟩ : ∃ (dC : Nat → ClassId) (dI : Nat → Nat → Nat), ∀ (k : Nat) (q : vw_C), fx_cl[k]? = some q → u_Kn s q.1 q.2.1 q.2.2 (dC k) (dI k) := by
    refine ⟨fun k => match k with | 0 => c0 | 1 => c1 | 2 => c2 | 3 => c3 | 4 => c4 | 5 => c5 | 6 => c6 | 7 => c7 | 8 => c8 | 9 => c9 | 10 => c10 | 11 => c11 | _ => c12, fun k => match k with | 0 => iS0 | 1 => iS1 | 2 => iS2 | 3 => iS3 | 4 => iS4 | 5 => iS5 | 6 => iS6 | 7 => iS7 | 8 => iS8 | 9 => iS9 | 10 => iS10 | 11 => iS11 | _ => iS12, ?_⟩
    intro k q hq
    match k, hq with
    | 0, hq => cases hq; exact hKn0
    | 1, hq => cases hq; exact hKn1
    | 2, hq => cases hq; exact hKn2
    | 3, hq => cases hq; exact hKn3
    | 4, hq => cases hq; exact hKn4
    | 5, hq => cases hq; exact hKn5
    | 6, hq => cases hq; exact hKn6
    | 7, hq => cases hq; exact hKn7
    | 8, hq => cases hq; exact hKn8
    | 9, hq => cases hq; exact hKn9
    | 10, hq => cases hq; exact hKn10
    | 11, hq => cases hq; exact hKn11
    | 12, hq => cases hq; exact hKn12
    | k + 13, hq => simp [fx_cl] at hq
  have hO : va_AO RX6 s := va_AO.of (A := #[Value.ref b]) (hts _ (tb_2 (List.mem_of_getElem? (i := 106) rfl)))
  obtain ⟨cI, hI1, hI2⟩ := ks_int (htf _ ak_int)
  obtain ⟨cQ, hQ1, hQ2⟩ := ks_quay hO
  obtain ⟨adK, adV, hs1, hs2, hs3, hs4, hs5⟩ := ks_str (A := fun q => s.heap.size ≤ q) hts hgv (fun a h => Nat.not_le.mpr h)
  obtain ⟨G, eG⟩ : ∃ G : fx_G, G = ((dC, dI), cI, (cQ, adK, adV), s.heap.size) := ⟨_, rfl⟩
  have hz0 : G.2.2.2 = s.heap.size := by rw [eG]
  have hKK : fx_K G s := by
    rw [eG]
    refine ⟨⟨hKc, fun k q h => ?_⟩, ks_nst hts⟩
    match k, h with
    | 0, h => cases h; exact ⟨hI1, hI2⟩
    | 1, h => cases h; exact ⟨hQ1, hQ2⟩
    | k + 2, h => simp at h
  have hQQ : fx_T G s := by
    rw [eG]
    exact ⟨hs1, hs2, hs3, hs4, hs5⟩
  have X : fx_C G p s m c #[Value.ref b] code 4 R_law := ⟨⟨hx, hb, hml, hown, htf⟩, hKK, hQQ⟩
  have hz : G.2.2.2 ≤ s.heap.size := Nat.le_of_eq hz0
  have hbA : ¬ fx_A G b := fun q => by unfold fx_A at q; omega
  obtain ⟨MZ, eMZ⟩ : ∃ z : Mm, z = fun _ _ => 0 := ⟨_, rfl⟩
  have h0 : ∀ a, 0 ≤ a → MZ a = fun _ => 0 := fun a _ => by rw [eMZ]
  have h : fx_H G ([] ++ []) MZ s s.heap [] := ⟨fun k q h => by simp [fx_W] at h, va_S.rf⟩
  have hl := lv_entry ([.ref b]) (n := 4) (Nat.le_of_ble_eq_true rfl)
  rw [lg_entry_eq]
  generalize (lg_sl ([.ref b]) ++ List.replicate (4 - (lg_sl ([.ref b])).length) Slot.unset).toArray = ls at hl ⊢
  have hl : lv_has ls 4 [(0, .ref b)] := hl
  refine cy_new (S0 := []) (L := []) (n0 := 0) (i0 := 0) rfl rfl X h hz (by omega) (h0 _ (by omega)) (fsN := [1, 1, 1, 1, 1, 1, 1, 1, 1, 0, 0, 0]) (ci := 11) inX11 tyX11_ok (fx_s1 (List.mem_of_getElem? (i := 21) rfl) rfl) (fx_s1 (List.mem_of_getElem? (i := 22) rfl) rfl) (fx_s1 (List.mem_of_getElem? (i := 1) rfl) rfl) rfl (nd_11 _) (Nat.le_of_ble_eq_true rfl) (Nat.le_of_ble_eq_true rfl) dL_law_0 (fun H h => ?_)
  refine W.widen (k := 1) (n := 12) (by omega) (by omega) ?_
  refine lv_dup hx hb dL_law_3 rfl ?_
  refine cy_call (S0 := []) (L := []) (x := .inr (.inr (11, [1, 1, 1, 1, 1, 1, 1, 1, 1, 0, 0, 0]))) (n0 := 0) (i0 := 0) (k := 0 + 0) (d := 3) rfl rfl X hO h hz (by omega) ym_X11_init yi_X11_init (Or.inl (fx_s1 (List.mem_of_getElem? (i := 23) rfl) rfl)) rfl (ci_MockParcels l G (S0 := [] ++ []) (n := 0 + 0) (M := MZ) (cy_len rfl rfl) (fun a ha => h0 a (by omega))) (As := []) (rest := [.ref (G.2.2.2 + (0 + 0))]) rfl rfl ⟨Nat.le_of_ble_eq_true rfl, Nat.le_of_ble_eq_true rfl⟩ ⟨Nat.le_of_ble_eq_true rfl, Nat.le_of_ble_eq_true rfl⟩ hl.1 (Nat.le_of_ble_eq_true rfl) dL_law_4 (fun S9 M9 H locs hK9 h => ?_)
  obtain ⟨eS9, eM9⟩ := Prod.mk.inj (show (S9, M9) = _ from hK9)
  refine W.widen (k := 159) (n := 9818) (by omega) (by omega) ?_
  have eS : S9 = SHc ++ [] := by rw [eS9]; exact hs_c
  rw [eS] at h
  obtain ⟨MC, eMC⟩ : ∃ z : Mm, z = CM_MockParcels 0 MZ := ⟨_, rfl⟩
  have eM9 : M9 = MC := eM9.trans eMC.symm
  rw [eM9] at h
  have h0 : ∀ a, 159 ≤ a → MC a = fun _ => 0 := fun a ha => by rw [eMC, cz_MockParcels _ _ _ (by omega)]; exact h0 a (by omega)
  refine lv_astore_n (lv' := [(1, .ref (G.2.2.2 + (0 + 0))), (0, .ref b)]) hx hb dL_law_7 rfl hl (by decide) rfl (fun ls hl => ?_)
  refine cy_new (S0 := SHc) (L := []) (n0 := 159) (i0 := 0) SHc_len rfl X h hz (by omega) (h0 _ (by omega)) (fsN := [0, 1, 1, 0, 1, 0, 0, 0, 1, 1, 1, 1, 1, 1, 1, 0, 0, 0, 0, 0, 1, 1, 1, 1, 1, 1, 1, 1, 0, 0, 0, 1, 0, 0, 0, 0, 0, 0, 1, 0, 1, 0, 1, 1, 1, 0, 0, 0, 1, 1, 1, 0, 1, 0, 1, 1, 1, 1, 1, 0, 1, 1, 0, 1, 1, 0, 1, 1, 0, 0, 0, 1]) (ci := 12) inX12 tyX12_ok (fx_s6 (List.mem_of_getElem? (i := 82) rfl) rfl) (fx_s6 (List.mem_of_getElem? (i := 83) rfl) rfl) (fx_s1 (List.mem_of_getElem? (i := 13) rfl) rfl) rfl (nd_12 _) (Nat.le_of_ble_eq_true rfl) (Nat.le_of_ble_eq_true rfl) dL_law_8 (fun H h => ?_)
  refine W.widen (k := 160) (n := 9890) (by omega) (by omega) ?_
  refine lv_dup hx hb dL_law_11 rfl ?_
  refine cy_call (S0 := SHc) (L := []) (x := .inr (.inr (12, [0, 1, 1, 0, 1, 0, 0, 0, 1, 1, 1, 1, 1, 1, 1, 0, 0, 0, 0, 0, 1, 1, 1, 1, 1, 1, 1, 1, 0, 0, 0, 1, 0, 0, 0, 0, 0, 0, 1, 0, 1, 0, 1, 1, 1, 0, 0, 0, 1, 1, 1, 0, 1, 0, 1, 1, 1, 1, 1, 0, 1, 1, 0, 1, 1, 0, 1, 1, 0, 0, 0, 1]))) (n0 := 159) (i0 := 0) (k := 159 + 0) (d := 1) SHc_len rfl X hO h hz (by omega) ym_X12_init yi_X12_init (Or.inl (fx_s6 (List.mem_of_getElem? (i := 84) rfl) rfl)) rfl (ci_Model l G (S0 := SHc ++ []) (n := 159 + 0) (M := MC) (cy_len SHc_len rfl) (fun a ha => h0 a (by omega))) (As := []) (rest := [.ref (G.2.2.2 + (159 + 0))]) rfl rfl ⟨Nat.le_of_ble_eq_true rfl, Nat.le_of_ble_eq_true rfl⟩ ⟨Nat.le_of_ble_eq_true rfl, Nat.le_of_ble_eq_true rfl⟩ hl.1 (Nat.le_of_ble_eq_true rfl) dL_law_12 (fun S9 M9 H locs hK9 h => ?_)
  obtain ⟨eS9, eM9⟩ := Prod.mk.inj (show (S9, M9) = _ from hK9)
  refine W.widen (k := 200) (n := 21639) (by omega) (by omega) ?_
  have eS : S9 = SH := by rw [eS9]; exact hs_m
  rw [eS] at h
  have eM9 : M9 = M0 := by rw [eM9, eMC, eMZ]; rfl
  rw [eM9] at h
  refine lv_astore_n (lv' := [(2, .ref (G.2.2.2 + (159 + 0))), (1, .ref (G.2.2.2 + (0 + 0))), (0, .ref b)]) hx hb dL_law_15 rfl hl (by decide) rfl (fun ls hl => ?_)
  refine lv_iconst (v := 0) hx hb dL_law_16 (by decide) ?_
  refine lv_istore_n (lv' := [(3, .int 0), (2, .ref (G.2.2.2 + (159 + 0))), (1, .ref (G.2.2.2 + (0 + 0))), (0, .ref b)]) hx hb dL_law_17 rfl hl (by decide) rfl (fun ls hl => ?_)
  exact w_L_law_18 X hr hlocks hX hbl hbA hz0 5000 0 M0 _ _ ls (hpure L xs hL) h (lv_sub hl [3, 2, 1, 0] rfl)
