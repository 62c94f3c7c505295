def TX_kd : List Nat := [8, 6, 13, 12, 12, 12, 12, 12, 1, 12, 12, 12, 12, 12, 4, 11, 12, 13, 12, 12, 12, 6, 13, 12, 12, 12, 12, 12, 1, 12, 12, 12, 12, 12, 0, 5, 12, 5, 12, 7, 15, 5, 12, 5, 12, 5, 12, 5, 12, 5, 12, 5, 12, 5, 12, 5, 12, 5, 12, 5, 12, 5, 12, 5, 12, 5, 12, 5, 12, 5, 12, 5, 12, 5, 12, 5, 12, 5, 12, 5, 12, 5, 12, 5, 12, 5, 12, 5, 12, 5, 12, 5, 12, 5, 12, 5, 12, 5, 12, 5, 12, 5, 12, 5, 12, 5, 12, 5, 12, 5, 12, 5, 12, 5, 12, 5, 12, 5, 12, 5, 12, 5, 12, 5, 12, 5, 12, 5, 12, 5, 12, 5, 12, 5, 12, 5, 12, 5, 12, 5, 12, 15, 12, 3, 15, 12, 5, 12, 12, 12, 12, 2, 2, 5, 12, 5, 12, 5, 12, 5, 12, 5, 12, 5, 12, 5, 12, 2, 12, 12, 12, 5, 12, 5, 12, 5, 12]
def TX_ln : List Nat := [0, 0, 6, 6, 6, 6, 6, 6, 0, 420, 420, 7, 7, 40, 0, 2000, 402, 402, 402, 4, 40, 0, 6, 6, 6, 6, 6, 6, 0, 420, 420, 7, 7, 40, 0, 0, 42, 0, 42, 0, 50, 0, 42, 0, 42, 0, 42, 0, 42, 0, 42, 0, 42, 0, 42, 0, 42, 0, 42, 0, 42, 0, 42, 0, 42, 0, 42, 0, 42, 0, 42, 0, 42, 0, 42, 0, 42, 0, 42, 0, 42, 0, 42, 0, 42, 0, 42, 0, 42, 0, 42, 0, 42, 0, 42, 0, 42, 0, 42, 0, 42, 0, 42, 0, 42, 0, 42, 0, 42, 0, 42, 0, 42, 0, 42, 0, 42, 0, 42, 0, 42, 0, 42, 0, 42, 0, 42, 0, 42, 0, 42, 0, 42, 0, 42, 0, 42, 0, 42, 0, 42, 3, 3, 0, 7, 7, 0, 42, 6, 6, 6, 0, 0, 0, 42, 0, 42, 0, 42, 0, 42, 0, 42, 0, 42, 0, 42, 0, 384, 20, 20, 0, 42, 0, 42, 0, 42]
def TX_rf : List (List Nat) := [[1, 14, 34, 35, 37, 39, 141, 142, 143, 167, 168, 169, 170, 0], [0, 0, 0, 0, 0, 0, 0, 0, 2, 3, 4, 5, 6, 7, 8], [], [], [], [], [], [], [9, 0, 10, 0, 11, 12, 13, 0], [], [], [], [], [], [15, 0, 16, 17, 18, 0, 0, 19, 20, 0, 0, 0, 21], [], [], [], [], [], [], [0, 0, 0, 0, 0, 0, 0, 0, 22, 23, 24, 25, 26, 27, 28], [], [], [], [], [], [], [29, 0, 30, 0, 31, 32, 33, 0], [], [], [], [], [], [1], [0, 0, 0, 0, 0, 0, 0, 0, 0, 0, 0, 0, 0, 0, 0, 0, 0, 0, 0, 0, 36], [], [0, 0, 0, 0, 0, 0, 0, 0, 0, 0, 0, 0, 0, 0, 0, 0, 0, 0, 0, 0, 38], [], [40, 0, 0, 0], [41, 43, 45, 47, 49, 51, 53, 55, 57, 59, 61, 63, 65, 67, 69, 71, 73, 75, 77, 79, 81, 83, 85, 87, 89, 91, 93, 95, 97, 99, 101, 103, 105, 107, 109, 111, 113, 115, 117, 119, 121, 123, 125, 127, 129, 131, 133, 135, 137, 139], [0, 0, 0, 0, 0, 0, 0, 0, 0, 0, 0, 0, 0, 0, 0, 0, 0, 0, 0, 0, 42], [], [0, 0, 0, 0, 0, 0, 0, 0, 0, 0, 0, 0, 0, 0, 0, 0, 0, 0, 0, 0, 44], [], [0, 0, 0, 0, 0, 0, 0, 0, 0, 0, 0, 0, 0, 0, 0, 0, 0, 0, 0, 0, 46], [], [0, 0, 0, 0, 0, 0, 0, 0, 0, 0, 0, 0, 0, 0, 0, 0, 0, 0, 0, 0, 48], [], [0, 0, 0, 0, 0, 0, 0, 0, 0, 0, 0, 0, 0, 0, 0, 0, 0, 0, 0, 0, 50], [], [0, 0, 0, 0, 0, 0, 0, 0, 0, 0, 0, 0, 0, 0, 0, 0, 0, 0, 0, 0, 52], [], [0, 0, 0, 0, 0, 0, 0, 0, 0, 0, 0, 0, 0, 0, 0, 0, 0, 0, 0, 0, 54], [], [0, 0, 0, 0, 0, 0, 0, 0, 0, 0, 0, 0, 0, 0, 0, 0, 0, 0, 0, 0, 56], [], [0, 0, 0, 0, 0, 0, 0, 0, 0, 0, 0, 0, 0, 0, 0, 0, 0, 0, 0, 0, 58], [], [0, 0, 0, 0, 0, 0, 0, 0, 0, 0, 0, 0, 0, 0, 0, 0, 0, 0, 0, 0, 60], [], [0, 0, 0, 0, 0, 0, 0, 0, 0, 0, 0, 0, 0, 0, 0, 0, 0, 0, 0, 0, 62], [], [0, 0, 0, 0, 0, 0, 0, 0, 0, 0, 0, 0, 0, 0, 0, 0, 0, 0, 0, 0, 64], [], [0, 0, 0, 0, 0, 0, 0, 0, 0, 0, 0, 0, 0, 0, 0, 0, 0, 0, 0, 0, 66], [], [0, 0, 0, 0, 0, 0, 0, 0, 0, 0, 0, 0, 0, 0, 0, 0, 0, 0, 0, 0, 68], [], [0, 0, 0, 0, 0, 0, 0, 0, 0, 0, 0, 0, 0, 0, 0, 0, 0, 0, 0, 0, 70], [], [0, 0, 0, 0, 0, 0, 0, 0, 0, 0, 0, 0, 0, 0, 0, 0, 0, 0, 0, 0, 72], [], [0, 0, 0, 0, 0, 0, 0, 0, 0, 0, 0, 0, 0, 0, 0, 0, 0, 0, 0, 0, 74], [], [0, 0, 0, 0, 0, 0, 0, 0, 0, 0, 0, 0, 0, 0, 0, 0, 0, 0, 0, 0, 76], [], [0, 0, 0, 0, 0, 0, 0, 0, 0, 0, 0, 0, 0, 0, 0, 0, 0, 0, 0, 0, 78], [], [0, 0, 0, 0, 0, 0, 0, 0, 0, 0, 0, 0, 0, 0, 0, 0, 0, 0, 0, 0, 80], [], [0, 0, 0, 0, 0, 0, 0, 0, 0, 0, 0, 0, 0, 0, 0, 0, 0, 0, 0, 0, 82], [], [0, 0, 0, 0, 0, 0, 0, 0, 0, 0, 0, 0, 0, 0, 0, 0, 0, 0, 0, 0, 84], [], [0, 0, 0, 0, 0, 0, 0, 0, 0, 0, 0, 0, 0, 0, 0, 0, 0, 0, 0, 0, 86], [], [0, 0, 0, 0, 0, 0, 0, 0, 0, 0, 0, 0, 0, 0, 0, 0, 0, 0, 0, 0, 88], [], [0, 0, 0, 0, 0, 0, 0, 0, 0, 0, 0, 0, 0, 0, 0, 0, 0, 0, 0, 0, 90], [], [0, 0, 0, 0, 0, 0, 0, 0, 0, 0, 0, 0, 0, 0, 0, 0, 0, 0, 0, 0, 92], [], [0, 0, 0, 0, 0, 0, 0, 0, 0, 0, 0, 0, 0, 0, 0, 0, 0, 0, 0, 0, 94], [], [0, 0, 0, 0, 0, 0, 0, 0, 0, 0, 0, 0, 0, 0, 0, 0, 0, 0, 0, 0, 96], [], [0, 0, 0, 0, 0, 0, 0, 0, 0, 0, 0, 0, 0, 0, 0, 0, 0, 0, 0, 0, 98], [], [0, 0, 0, 0, 0, 0, 0, 0, 0, 0, 0, 0, 0, 0, 0, 0, 0, 0, 0, 0, 100], [], [0, 0, 0, 0, 0, 0, 0, 0, 0, 0, 0, 0, 0, 0, 0, 0, 0, 0, 0, 0, 102], [], [0, 0, 0, 0, 0, 0, 0, 0, 0, 0, 0, 0, 0, 0, 0, 0, 0, 0, 0, 0, 104], [], [0, 0, 0, 0, 0, 0, 0, 0, 0, 0, 0, 0, 0, 0, 0, 0, 0, 0, 0, 0, 106], [], [0, 0, 0, 0, 0, 0, 0, 0, 0, 0, 0, 0, 0, 0, 0, 0, 0, 0, 0, 0, 108], [], [0, 0, 0, 0, 0, 0, 0, 0, 0, 0, 0, 0, 0, 0, 0, 0, 0, 0, 0, 0, 110], [], [0, 0, 0, 0, 0, 0, 0, 0, 0, 0, 0, 0, 0, 0, 0, 0, 0, 0, 0, 0, 112], [], [0, 0, 0, 0, 0, 0, 0, 0, 0, 0, 0, 0, 0, 0, 0, 0, 0, 0, 0, 0, 114], [], [0, 0, 0, 0, 0, 0, 0, 0, 0, 0, 0, 0, 0, 0, 0, 0, 0, 0, 0, 0, 116], [], [0, 0, 0, 0, 0, 0, 0, 0, 0, 0, 0, 0, 0, 0, 0, 0, 0, 0, 0, 0, 118], [], [0, 0, 0, 0, 0, 0, 0, 0, 0, 0, 0, 0, 0, 0, 0, 0, 0, 0, 0, 0, 120], [], [0, 0, 0, 0, 0, 0, 0, 0, 0, 0, 0, 0, 0, 0, 0, 0, 0, 0, 0, 0, 122], [], [0, 0, 0, 0, 0, 0, 0, 0, 0, 0, 0, 0, 0, 0, 0, 0, 0, 0, 0, 0, 124], [], [0, 0, 0, 0, 0, 0, 0, 0, 0, 0, 0, 0, 0, 0, 0, 0, 0, 0, 0, 0, 126], [], [0, 0, 0, 0, 0, 0, 0, 0, 0, 0, 0, 0, 0, 0, 0, 0, 0, 0, 0, 0, 128], [], [0, 0, 0, 0, 0, 0, 0, 0, 0, 0, 0, 0, 0, 0, 0, 0, 0, 0, 0, 0, 130], [], [0, 0, 0, 0, 0, 0, 0, 0, 0, 0, 0, 0, 0, 0, 0, 0, 0, 0, 0, 0, 132], [], [0, 0, 0, 0, 0, 0, 0, 0, 0, 0, 0, 0, 0, 0, 0, 0, 0, 0, 0, 0, 134], [], [0, 0, 0, 0, 0, 0, 0, 0, 0, 0, 0, 0, 0, 0, 0, 0, 0, 0, 0, 0, 136], [], [0, 0, 0, 0, 0, 0, 0, 0, 0, 0, 0, 0, 0, 0, 0, 0, 0, 0, 0, 0, 138], [], [0, 0, 0, 0, 0, 0, 0, 0, 0, 0, 0, 0, 0, 0, 0, 0, 0, 0, 0, 0, 140], [], [171, 173, 175], [], [34, 144, 145, 146, 148, 149, 150, 151, 152, 0, 0, 0], [153, 155, 157, 159, 161, 163, 165], [], [0, 0, 0, 0, 0, 0, 0, 0, 0, 0, 0, 0, 0, 0, 0, 0, 0, 0, 0, 0, 147], [], [], [], [], [0, 0, 0], [0, 0, 0], [0, 0, 0, 0, 0, 0, 0, 0, 0, 0, 0, 0, 0, 0, 0, 0, 0, 0, 0, 0, 154], [], [0, 0, 0, 0, 0, 0, 0, 0, 0, 0, 0, 0, 0, 0, 0, 0, 0, 0, 0, 0, 156], [], [0, 0, 0, 0, 0, 0, 0, 0, 0, 0, 0, 0, 0, 0, 0, 0, 0, 0, 0, 0, 158], [], [0, 0, 0, 0, 0, 0, 0, 0, 0, 0, 0, 0, 0, 0, 0, 0, 0, 0, 0, 0, 160], [], [0, 0, 0, 0, 0, 0, 0, 0, 0, 0, 0, 0, 0, 0, 0, 0, 0, 0, 0, 0, 162], [], [0, 0, 0, 0, 0, 0, 0, 0, 0, 0, 0, 0, 0, 0, 0, 0, 0, 0, 0, 0, 164], [], [0, 0, 0, 0, 0, 0, 0, 0, 0, 0, 0, 0, 0, 0, 0, 0, 0, 0, 0, 0, 166], [], [0, 0, 0], [], [], [], [0, 0, 0, 0, 0, 0, 0, 0, 0, 0, 0, 0, 0, 0, 0, 0, 0, 0, 0, 0, 172], [], [0, 0, 0, 0, 0, 0, 0, 0, 0, 0, 0, 0, 0, 0, 0, 0, 0, 0, 0, 0, 174], [], [0, 0, 0, 0, 0, 0, 0, 0, 0, 0, 0, 0, 0, 0, 0, 0, 0, 0, 0, 0, 176], []]
def TX : x_Tb := (177, fun o => TX_kd.getD o 99, fun o k => (TX_rf.getD o []).getD k 0, fun o => TX_ln.getD o 0)
theorem TX_lt {o c : Nat} (h : x_kd TX o = c) (hc : c < 16) : o < 177 := by
  rcases Nat.lt_or_ge o 177 with q | q
  · exact q
  · have e : TX_kd.getD o 99 = 99 := by
      rw [List.getD_eq_getElem?_getD, List.getElem?_eq_none (Nat.le_trans (show TX_kd.length ≤ 177 from by decide +kernel) q)]
      rfl
    have e2 : x_kd TX o = 99 := e
    omega
theorem TX_all {Pp : Nat → Bool} (h : (List.range 177).all Pp = true) {o c : Nat} (hk : x_kd TX o = c) (hc : c < 16) : Pp o = true := List.all_eq_true.mp h o (List.mem_range.mpr (TX_lt hk hc))
theorem TX_el {o : Nat} (hk : x_kd TX o = 15) {i : Nat} (hi : i < x_ln TX o) : x_kd TX (x_rf TX o i) = 5 := by
  have h := TX_all (Pp := fun o => decide (x_kd TX o = 15 → ∀ i, i < x_ln TX o → x_kd TX (x_rf TX o i) = 5)) (by decide +kernel) hk (by decide)
  exact of_decide_eq_true h hk i hi
theorem t_TX_el {o : Nat} (hk : x_kd TX o = 15) {i : Int32} (hi : x_inb i (x_ln TX o) = true) : x_kd TX (x_rf TX o (x_ix i)) = 5 := TX_el hk (Nat.not_le.mp (fun q => x_inb_in hi (Or.inr q)))
def TM_kd : List Nat := [9, 10, 10, 12, 12, 12, 13, 13, 13, 12, 12, 12, 12, 12, 12, 14, 12, 12, 12, 12, 12, 14, 12, 12, 12, 12, 12, 12, 12, 12, 12, 12, 12, 12, 12, 12, 12, 12, 12, 12, 12, 12, 12, 14, 12]
def TM_ln : List Nat := [0, 2000, 2000, 403, 403, 403, 403, 25, 6, 8, 2, 12, 12, 12, 12, 12, 2, 2, 2, 14, 14, 260, 260, 260, 260, 260, 840, 840, 64, 9, 400, 60, 60, 4, 3000, 6, 6, 6, 6, 6, 384, 20, 20, 3, 180]
def TM_rf : List (List Nat) := [[0, 1, 0, 2, 0, 3, 4, 5, 6, 7, 0, 0, 0, 0, 0, 0, 0, 0, 0, 0, 0, 8, 9, 10, 11, 12, 13, 14, 15, 16, 17, 18, 19, 20, 0, 21, 22, 23, 24, 25, 0, 26, 27, 28, 0, 29, 30, 0, 31, 32, 0, 0, 0, 33, 0, 34, 0, 0, 35, 36, 37, 0, 38, 0, 39, 0, 0, 40, 0, 41, 42, 43, 44], [], [], [], [], [], [], [], [], [], [], [], [], [], [], [], [], [], [], [], [], [], [], [], [], [], [], [], [], [], [], [], [], [], [], [], [], [], [], [], [], [], [], [], []]
def TM : x_Tb := (45, fun o => TM_kd.getD o 99, fun o k => (TM_rf.getD o []).getD k 0, fun o => TM_ln.getD o 0)
theorem TM_lt {o c : Nat} (h : x_kd TM o = c) (hc : c < 16) : o < 45 := by
  rcases Nat.lt_or_ge o 45 with q | q
  · exact q
  · have e : TM_kd.getD o 99 = 99 := by
      rw [List.getD_eq_getElem?_getD, List.getElem?_eq_none (Nat.le_trans (show TM_kd.length ≤ 45 from by decide +kernel) q)]
      rfl
    have e2 : x_kd TM o = 99 := e
    omega
theorem TM_all {Pp : Nat → Bool} (h : (List.range 45).all Pp = true) {o c : Nat} (hk : x_kd TM o = c) (hc : c < 16) : Pp o = true := List.all_eq_true.mp h o (List.mem_range.mpr (TM_lt hk hc))
theorem TM_el {o : Nat} (hk : x_kd TM o = 15) {i : Nat} (hi : i < x_ln TM o) : x_kd TM (x_rf TM o i) = 5 := by
  have h := TM_all (Pp := fun o => decide (x_kd TM o = 15 → ∀ i, i < x_ln TM o → x_kd TM (x_rf TM o i) = 5)) (by decide +kernel) hk (by decide)
  exact of_decide_eq_true h hk i hi
theorem t_TM_el {o : Nat} (hk : x_kd TM o = 15) {i : Int32} (hi : x_inb i (x_ln TM o) = true) : x_kd TM (x_rf TM o (x_ix i)) = 5 := TM_el hk (Nat.not_le.mp (fun q => x_inb_in hi (Or.inr q)))
theorem t_TX_0_0 {o : Nat} (hk : x_kd TX o = 0) : x_kd TX (x_rf TX o 0) = 6 := of_decide_eq_true (TX_all (Pp := fun o => decide (x_kd TX o = 0 → x_kd TX (x_rf TX o 0) = 6)) (by decide +kernel) hk (by decide)) hk
theorem t_TX_1_0 {o : Nat} (hk : x_kd TX o = 1) : x_kd TX (x_rf TX o 0) = 12 := of_decide_eq_true (TX_all (Pp := fun o => decide (x_kd TX o = 1 → x_kd TX (x_rf TX o 0) = 12)) (by decide +kernel) hk (by decide)) hk
theorem t_TX_1_2 {o : Nat} (hk : x_kd TX o = 1) : x_kd TX (x_rf TX o 2) = 12 := of_decide_eq_true (TX_all (Pp := fun o => decide (x_kd TX o = 1 → x_kd TX (x_rf TX o 2) = 12)) (by decide +kernel) hk (by decide)) hk
theorem t_TX_1_4 {o : Nat} (hk : x_kd TX o = 1) : x_kd TX (x_rf TX o 4) = 12 := of_decide_eq_true (TX_all (Pp := fun o => decide (x_kd TX o = 1 → x_kd TX (x_rf TX o 4) = 12)) (by decide +kernel) hk (by decide)) hk
theorem t_TX_1_5 {o : Nat} (hk : x_kd TX o = 1) : x_kd TX (x_rf TX o 5) = 12 := of_decide_eq_true (TX_all (Pp := fun o => decide (x_kd TX o = 1 → x_kd TX (x_rf TX o 5) = 12)) (by decide +kernel) hk (by decide)) hk
theorem t_TX_1_6 {o : Nat} (hk : x_kd TX o = 1) : x_kd TX (x_rf TX o 6) = 12 := of_decide_eq_true (TX_all (Pp := fun o => decide (x_kd TX o = 1 → x_kd TX (x_rf TX o 6) = 12)) (by decide +kernel) hk (by decide)) hk
theorem t_TX_5_20 {o : Nat} (hk : x_kd TX o = 5) : x_kd TX (x_rf TX o 20) = 12 := of_decide_eq_true (TX_all (Pp := fun o => decide (x_kd TX o = 5 → x_kd TX (x_rf TX o 20) = 12)) (by decide +kernel) hk (by decide)) hk
theorem t_TX_6_8 {o : Nat} (hk : x_kd TX o = 6) : x_kd TX (x_rf TX o 8) = 13 := of_decide_eq_true (TX_all (Pp := fun o => decide (x_kd TX o = 6 → x_kd TX (x_rf TX o 8) = 13)) (by decide +kernel) hk (by decide)) hk
theorem t_TX_6_9 {o : Nat} (hk : x_kd TX o = 6) : x_kd TX (x_rf TX o 9) = 12 := of_decide_eq_true (TX_all (Pp := fun o => decide (x_kd TX o = 6 → x_kd TX (x_rf TX o 9) = 12)) (by decide +kernel) hk (by decide)) hk
theorem t_TX_6_10 {o : Nat} (hk : x_kd TX o = 6) : x_kd TX (x_rf TX o 10) = 12 := of_decide_eq_true (TX_all (Pp := fun o => decide (x_kd TX o = 6 → x_kd TX (x_rf TX o 10) = 12)) (by decide +kernel) hk (by decide)) hk
theorem t_TX_6_11 {o : Nat} (hk : x_kd TX o = 6) : x_kd TX (x_rf TX o 11) = 12 := of_decide_eq_true (TX_all (Pp := fun o => decide (x_kd TX o = 6 → x_kd TX (x_rf TX o 11) = 12)) (by decide +kernel) hk (by decide)) hk
theorem t_TX_6_12 {o : Nat} (hk : x_kd TX o = 6) : x_kd TX (x_rf TX o 12) = 12 := of_decide_eq_true (TX_all (Pp := fun o => decide (x_kd TX o = 6 → x_kd TX (x_rf TX o 12) = 12)) (by decide +kernel) hk (by decide)) hk
theorem t_TX_6_13 {o : Nat} (hk : x_kd TX o = 6) : x_kd TX (x_rf TX o 13) = 12 := of_decide_eq_true (TX_all (Pp := fun o => decide (x_kd TX o = 6 → x_kd TX (x_rf TX o 13) = 12)) (by decide +kernel) hk (by decide)) hk
theorem t_TX_6_14 {o : Nat} (hk : x_kd TX o = 6) : x_kd TX (x_rf TX o 14) = 1 := of_decide_eq_true (TX_all (Pp := fun o => decide (x_kd TX o = 6 → x_kd TX (x_rf TX o 14) = 1)) (by decide +kernel) hk (by decide)) hk
theorem x_ins {ws : List Cond} (is : List Nat) (h : ws.map some = is.map (fun i => lw_tbl[i]?)) (hg : ws.all goodWord = true) : ∀ w ∈ ws, w ∈ x_tbl := by
  intro w hw
  have h1 : some w ∈ ws.map some := List.mem_map.mpr ⟨w, hw, rfl⟩
  rw [h] at h1
  obtain ⟨i, -, hi⟩ := List.mem_map.mp h1
  exact x_tb hi (List.all_eq_true.mp hg w hw)
theorem x_in0 : ∀ w ∈ u_ws RX0 TX0 1, w ∈ x_tbl := x_ins [296] (by decide +kernel) (by decide +kernel)
theorem x_in1 : ∀ w ∈ u_ws RX1 TX1 8, w ∈ x_tbl := x_ins [145, 147, 149, 151, 153, 155, 157, 159] (by decide +kernel) (by decide +kernel)
theorem x_in2 : ∀ w ∈ u_ws RX2 TX2 3, w ∈ x_tbl := x_ins [454, 456, 458] (by decide +kernel) (by decide +kernel)
theorem x_in3 : ∀ w ∈ u_ws RX3 TX3 12, w ∈ x_tbl := x_ins [478, 480, 482, 484, 486, 488, 490, 492, 494, 496, 498, 500] (by decide +kernel) (by decide +kernel)
theorem x_in4 : ∀ w ∈ u_ws RX4 TX4 13, w ∈ x_tbl := x_ins [260, 262, 264, 266, 268, 270, 272, 274, 276, 278, 280, 282, 284] (by decide +kernel) (by decide +kernel)
theorem x_in5 : ∀ w ∈ u_ws RX5 TX5 21, w ∈ x_tbl := x_ins [366, 368, 370, 372, 374, 376, 378, 380, 382, 384, 386, 388, 390, 392, 394, 396, 398, 400, 402, 404, 406] (by decide +kernel) (by decide +kernel)
theorem x_in6 : ∀ w ∈ u_ws RX6 TX6 15, w ∈ x_tbl := x_ins [205, 207, 209, 211, 213, 215, 217, 219, 221, 223, 225, 227, 229, 231, 233] (by decide +kernel) (by decide +kernel)
theorem x_in7 : ∀ w ∈ u_ws RX7 TX7 4, w ∈ x_tbl := x_ins [424, 426, 428, 430] (by decide +kernel) (by decide +kernel)
theorem x_in8 : ∀ w ∈ u_ws RX8 TX8 14, w ∈ x_tbl := x_ins [557, 559, 561, 563, 565, 567, 569, 571, 573, 575, 577, 579, 581, 583] (by decide +kernel) (by decide +kernel)
theorem x_in9 : ∀ w ∈ u_ws RX9 TX9 73, w ∈ x_tbl := x_ins [1281, 1283, 1285, 1287, 1289, 1291, 1293, 1295, 1297, 1299, 1301, 1303, 1305, 1307, 1309, 1311, 1313, 1315, 1317, 1319, 1321, 1323, 1325, 1327, 1329, 1331, 1333, 1335, 1337, 1339, 1341, 1343, 1345, 1347, 1349, 1351, 1353, 1355, 1357, 1359, 1361, 1363, 1365, 1367, 1369, 1371, 1373, 1375, 1377, 1379, 1381, 1383, 1385, 1387, 1389, 1391, 1393, 1395, 1397, 1399, 1401, 1403, 1405, 1407, 1409, 1411, 1413, 1415, 1417, 1419, 1421, 1423, 1425] (by decide +kernel) (by decide +kernel)
theorem wd_0 : Cond.selects "BabyRound$Day" yX0_giveTo yX0_giveTo ∈ x_tbl := x_tb (i := 0) (by decide +kernel) rfl
theorem wd_1 : Cond.selects "BabyRound$Reader" yX4_addFour yX4_addFour ∈ x_tbl := x_tb (i := 1) (by decide +kernel) rfl
theorem wd_2 : Cond.selects "BabyRound$Reader" yX4_scan yX4_scan ∈ x_tbl := x_tb (i := 2) (by decide +kernel) rfl
theorem wd_3 : Cond.selects "BabyRound$Reader" yX4_byteAt yX4_byteAt ∈ x_tbl := x_tb (i := 3) (by decide +kernel) rfl
theorem wd_4 : Cond.selects "BabyRound$Reader" yX4_endOfRun yX4_endOfRun ∈ x_tbl := x_tb (i := 4) (by decide +kernel) rfl
theorem wd_5 : Cond.selects "BabyRound$Reader" yX4_addToken yX4_addToken ∈ x_tbl := x_tb (i := 5) (by decide +kernel) rfl
theorem wd_6 : Cond.selects "BabyRound$Reader" yX4_addWord yX4_addWord ∈ x_tbl := x_tb (i := 6) (by decide +kernel) rfl
theorem wd_7 : Cond.selects "BabyRound$Reader" yX4_addRow yX4_addRow ∈ x_tbl := x_tb (i := 7) (by decide +kernel) rfl
theorem wd_8 : Cond.selects "BabyRound$Reader" yX4_wordAt yX4_wordAt ∈ x_tbl := x_tb (i := 8) (by decide +kernel) rfl
theorem wd_9 : Cond.selects "BabyRound$Reader" yX4_nameAt yX4_nameAt ∈ x_tbl := x_tb (i := 9) (by decide +kernel) rfl
theorem wd_10 : Cond.selects "BabyRound$Reader" yX4_numberAt yX4_numberAt ∈ x_tbl := x_tb (i := 10) (by decide +kernel) rfl
theorem wd_11 : Cond.selects "BabyRound$Reader" yX4_kind yX4_kind ∈ x_tbl := x_tb (i := 11) (by decide +kernel) rfl
theorem wd_12 : Cond.selects "BabyRound$Reader" yX4_tellOne yX4_tellOne ∈ x_tbl := x_tb (i := 12) (by decide +kernel) rfl
theorem wd_13 : Cond.selects "BabyRound$Reader" yX4_tellAunt yX4_tellAunt ∈ x_tbl := x_tb (i := 13) (by decide +kernel) rfl
theorem wd_14 : Cond.selects "BabyRound$Reader" yX4_fail yX4_fail ∈ x_tbl := x_tb (i := 14) (by decide +kernel) rfl
theorem wd_15 : Cond.selects "BabyRound$Reader" yX4_take yX4_take ∈ x_tbl := x_tb (i := 15) (by decide +kernel) rfl
theorem wd_16 : Cond.selects "BabyRound$Reader" yX4_worth yX4_worth ∈ x_tbl := x_tb (i := 16) (by decide +kernel) rfl
theorem wd_17 : Cond.selects "BabyRound$Reader" yX4_note yX4_note ∈ x_tbl := x_tb (i := 17) (by decide +kernel) rfl
theorem wd_18 : Cond.selects "BabyRound$Reader" yX4_take_ yX4_take_ ∈ x_tbl := x_tb (i := 18) (by decide +kernel) rfl
theorem wd_19 : Cond.selects "BabyRound$Reader" yX4_takeNumbers yX4_takeNumbers ∈ x_tbl := x_tb (i := 19) (by decide +kernel) rfl
theorem wd_20 : Cond.selects "BabyRound$Reader" yX4_tellBaby yX4_tellBaby ∈ x_tbl := x_tb (i := 20) (by decide +kernel) rfl
theorem wd_21 : Cond.selects "BabyRound$Reader" yX4_tellLaw yX4_tellLaw ∈ x_tbl := x_tb (i := 21) (by decide +kernel) rfl
theorem wd_22 : Cond.selects "BabyRound$Reader" yX4_takePiece yX4_takePiece ∈ x_tbl := x_tb (i := 22) (by decide +kernel) rfl
theorem wd_23 : Cond.selects "BabyRound$Reader" yX4_addWaiting yX4_addWaiting ∈ x_tbl := x_tb (i := 23) (by decide +kernel) rfl
theorem wd_24 : Cond.selects "BabyRound$Reader" yX4_addUnit yX4_addUnit ∈ x_tbl := x_tb (i := 24) (by decide +kernel) rfl
theorem wd_25 : Cond.selects "BabyRound$Reader" yX4_endWaiting yX4_endWaiting ∈ x_tbl := x_tb (i := 25) (by decide +kernel) rfl
theorem wd_26 : Cond.selects "BabyRound$Reader" yX4_tellNumber yX4_tellNumber ∈ x_tbl := x_tb (i := 26) (by decide +kernel) rfl
theorem wd_27 : Cond.selects "BabyRound" yX8_isAunt yX8_isAunt ∈ x_tbl := x_tb (i := 27) (by decide +kernel) rfl
theorem wd_28 : Cond.selects "BabyRound$Laws" yX1_value yX1_value ∈ x_tbl := x_tb (i := 28) (by decide +kernel) rfl
theorem wd_29 : Cond.selects "BabyRound$Laws" yX1_join yX1_join ∈ x_tbl := x_tb (i := 29) (by decide +kernel) rfl
theorem wd_30 : Cond.selects "BabyRound$Day" yX0_stepAsleep yX0_stepAsleep ∈ x_tbl := x_tb (i := 30) (by decide +kernel) rfl
theorem wd_31 : Cond.selects "BabyRound$Day" yX0_stepAwake yX0_stepAwake ∈ x_tbl := x_tb (i := 31) (by decide +kernel) rfl
theorem wd_32 : Cond.selects "BabyRound$Day" yX0_spit yX0_spit ∈ x_tbl := x_tb (i := 32) (by decide +kernel) rfl
theorem wd_33 : Cond.selects "BabyRound" yX8_asleepOrAlone yX8_asleepOrAlone ∈ x_tbl := x_tb (i := 33) (by decide +kernel) rfl
theorem wd_34 : Cond.selects "BabyRound$Orders" yX3_begin yX3_begin ∈ x_tbl := x_tb (i := 34) (by decide +kernel) rfl
theorem wd_35 : Cond.selects "BabyRound$Orders" yX3_row yX3_row ∈ x_tbl := x_tb (i := 35) (by decide +kernel) rfl
theorem wd_36 : Cond.selects "BabyRound$Orders" yX3_weigh yX3_weigh ∈ x_tbl := x_tb (i := 36) (by decide +kernel) rfl
theorem wd_37 : Cond.selects "BabyRound$Orders" yX3_share yX3_share ∈ x_tbl := x_tb (i := 37) (by decide +kernel) rfl
theorem wd_38 : Cond.selects "BabyRound$Orders" yX3_follow yX3_follow ∈ x_tbl := x_tb (i := 38) (by decide +kernel) rfl
theorem wd_39 : Cond.selects "BabyRound$Orders" yX3_change yX3_change ∈ x_tbl := x_tb (i := 39) (by decide +kernel) rfl
theorem wd_40 : Cond.selects "BabyRound" yX8_grant yX8_grant ∈ x_tbl := x_tb (i := 40) (by decide +kernel) rfl
theorem wd_41 : Cond.selects "BabyRound" yX8_criedInSight yX8_criedInSight ∈ x_tbl := x_tb (i := 41) (by decide +kernel) rfl
theorem wd_42 : Cond.selects "BabyRound$Day" yX0_fewest yX0_fewest ∈ x_tbl := x_tb (i := 42) (by decide +kernel) rfl
theorem wd_43 : Cond.selects "BabyRound" yX8_laughInSet yX8_laughInSet ∈ x_tbl := x_tb (i := 43) (by decide +kernel) rfl
theorem wd_44 : Cond.selects "BabyRound" yX8_isAtRest yX8_isAtRest ∈ x_tbl := x_tb (i := 44) (by decide +kernel) rfl
theorem wd_45 : Cond.selects "BabyRound" yX8_criesAsTold yX8_criesAsTold ∈ x_tbl := x_tb (i := 45) (by decide +kernel) rfl
theorem wd_46 : Cond.selects "BabyRoundModel" yX9_plain yX9_plain ∈ x_tbl := x_tb (i := 46) (by decide +kernel) rfl
theorem wd_47 : Cond.selects "BabyRoundModel" yX9_begins yX9_begins ∈ x_tbl := x_tb (i := 47) (by decide +kernel) rfl
theorem wd_48 : Cond.selects "BabyRoundModel" yX9_plainly yX9_plainly ∈ x_tbl := x_tb (i := 48) (by decide +kernel) rfl
theorem wd_49 : Cond.selects "BabyRoundModel" yX9_keepsRow yX9_keepsRow ∈ x_tbl := x_tb (i := 49) (by decide +kernel) rfl
theorem wd_50 : Cond.selects "BabyRoundModel" yX9_put yX9_put ∈ x_tbl := x_tb (i := 50) (by decide +kernel) rfl
theorem wd_51 : Cond.selects "BabyRoundModel" yX9_cut yX9_cut ∈ x_tbl := x_tb (i := 51) (by decide +kernel) rfl
theorem wd_52 : Cond.selects "BabyRoundModel" yX9_byteAt yX9_byteAt ∈ x_tbl := x_tb (i := 52) (by decide +kernel) rfl
theorem wd_53 : Cond.selects "BabyRoundModel" yX9_token yX9_token ∈ x_tbl := x_tb (i := 53) (by decide +kernel) rfl
theorem wd_54 : Cond.selects "BabyRoundModel" yX9_sign yX9_sign ∈ x_tbl := x_tb (i := 54) (by decide +kernel) rfl
theorem wd_55 : Cond.selects "BabyRoundModel" yX9_is yX9_is ∈ x_tbl := x_tb (i := 55) (by decide +kernel) rfl
theorem wd_56 : Cond.selects "BabyRoundModel" yX9_tellOne yX9_tellOne ∈ x_tbl := x_tb (i := 56) (by decide +kernel) rfl
theorem wd_57 : Cond.selects "BabyRoundModel" yX9_goesOn yX9_goesOn ∈ x_tbl := x_tb (i := 57) (by decide +kernel) rfl
theorem wd_58 : Cond.selects "BabyRoundModel" yX9_fail yX9_fail ∈ x_tbl := x_tb (i := 58) (by decide +kernel) rfl
theorem wd_59 : Cond.selects "BabyRoundModel" yX9_bounded yX9_bounded ∈ x_tbl := x_tb (i := 59) (by decide +kernel) rfl
theorem wd_60 : Cond.selects "BabyRoundModel" yX9_wrong yX9_wrong ∈ x_tbl := x_tb (i := 60) (by decide +kernel) rfl
theorem wd_61 : Cond.selects "BabyRoundModel" yX9_must yX9_must ∈ x_tbl := x_tb (i := 61) (by decide +kernel) rfl
theorem wd_62 : Cond.selects "BabyRoundModel" yX9_tellAunt yX9_tellAunt ∈ x_tbl := x_tb (i := 62) (by decide +kernel) rfl
theorem wd_63 : Cond.selects "BabyRoundModel" yX9_tellLaw yX9_tellLaw ∈ x_tbl := x_tb (i := 63) (by decide +kernel) rfl
theorem wd_64 : Cond.selects "BabyRoundModel" yX9_expression yX9_expression ∈ x_tbl := x_tb (i := 64) (by decide +kernel) rfl
theorem wd_65 : Cond.selects "BabyRoundModel" yX9_unit yX9_unit ∈ x_tbl := x_tb (i := 65) (by decide +kernel) rfl
theorem wd_66 : Cond.selects "BabyRoundModel" yX9_emit yX9_emit ∈ x_tbl := x_tb (i := 66) (by decide +kernel) rfl
theorem wd_67 : Cond.selects "BabyRoundModel" yX9_comesOut yX9_comesOut ∈ x_tbl := x_tb (i := 67) (by decide +kernel) rfl
theorem wd_68 : Cond.selects "BabyRoundModel" yX9_term yX9_term ∈ x_tbl := x_tb (i := 68) (by decide +kernel) rfl
theorem wd_69 : Cond.selects "BabyRoundModel" yX9_isAunt yX9_isAunt ∈ x_tbl := x_tb (i := 69) (by decide +kernel) rfl
theorem wd_70 : Cond.selects "BabyRoundModel" yX9_copies yX9_copies ∈ x_tbl := x_tb (i := 70) (by decide +kernel) rfl
theorem wd_71 : Cond.selects "BabyRoundModel" yX9_lawNow yX9_lawNow ∈ x_tbl := x_tb (i := 71) (by decide +kernel) rfl
theorem wd_72 : Cond.selects "BabyRoundModel" yX9_tells yX9_tells ∈ x_tbl := x_tb (i := 72) (by decide +kernel) rfl
theorem wd_73 : Cond.selects "BabyRoundModel" yX9_termOf yX9_termOf ∈ x_tbl := x_tb (i := 73) (by decide +kernel) rfl
theorem wd_74 : Cond.selects "BabyRoundModel" yX9_goes yX9_goes ∈ x_tbl := x_tb (i := 74) (by decide +kernel) rfl
theorem wd_75 : Cond.selects "BabyRoundModel" yX9_minuteGoes yX9_minuteGoes ∈ x_tbl := x_tb (i := 75) (by decide +kernel) rfl
theorem wd_76 : Cond.selects "BabyRoundModel" yX9_sleepMinute yX9_sleepMinute ∈ x_tbl := x_tb (i := 76) (by decide +kernel) rfl
theorem wd_77 : Cond.selects "BabyRoundModel" yX9_wakeMinute yX9_wakeMinute ∈ x_tbl := x_tb (i := 77) (by decide +kernel) rfl
theorem wd_78 : Cond.selects "BabyRoundModel" yX9_lotNow yX9_lotNow ∈ x_tbl := x_tb (i := 78) (by decide +kernel) rfl
theorem wd_79 : Cond.selects "BabyRoundModel" yX9_fallsAsleep yX9_fallsAsleep ∈ x_tbl := x_tb (i := 79) (by decide +kernel) rfl
theorem wd_80 : Cond.selects "BabyRoundModel" yX9_keeps yX9_keeps ∈ x_tbl := x_tb (i := 80) (by decide +kernel) rfl
theorem wd_81 : Cond.selects "BabyRoundModel" yX9_isAwake yX9_isAwake ∈ x_tbl := x_tb (i := 81) (by decide +kernel) rfl
theorem wd_82 : Cond.selects "BabyRoundModel" yX9_hands yX9_hands ∈ x_tbl := x_tb (i := 82) (by decide +kernel) rfl
theorem wd_83 : Cond.selects "BabyRoundModel" yX9_feedsNow yX9_feedsNow ∈ x_tbl := x_tb (i := 83) (by decide +kernel) rfl
theorem wd_84 : Cond.selects "BabyRoundModel" yX9_turns yX9_turns ∈ x_tbl := x_tb (i := 84) (by decide +kernel) rfl
theorem wd_85 : Cond.selects "BabyRoundModel" yX9_cries yX9_cries ∈ x_tbl := x_tb (i := 85) (by decide +kernel) rfl
theorem wd_86 : Cond.selects "BabyRoundModel" yX9_fillsOrders yX9_fillsOrders ∈ x_tbl := x_tb (i := 86) (by decide +kernel) rfl
theorem wd_87 : Cond.selects "BabyRoundModel" yX9_firstOrder yX9_firstOrder ∈ x_tbl := x_tb (i := 87) (by decide +kernel) rfl
theorem wd_88 : Cond.selects "BabyRoundModel" yX9_givesAll yX9_givesAll ∈ x_tbl := x_tb (i := 88) (by decide +kernel) rfl
theorem wd_89 : Cond.selects "BabyRoundModel" yX9_starts yX9_starts ∈ x_tbl := x_tb (i := 89) (by decide +kernel) rfl
theorem wd_90 : Cond.selects "BabyRoundModel" yX9_gives yX9_gives ∈ x_tbl := x_tb (i := 90) (by decide +kernel) rfl
theorem wd_91 : Cond.selects "BabyRoundModel" yX9_luckiest yX9_luckiest ∈ x_tbl := x_tb (i := 91) (by decide +kernel) rfl
theorem wd_92 : Cond.selects "BabyRoundModel" yX9_apartNow yX9_apartNow ∈ x_tbl := x_tb (i := 92) (by decide +kernel) rfl
theorem wd_93 : Cond.selects "BabyRoundModel" yX9_nextOrder yX9_nextOrder ∈ x_tbl := x_tb (i := 93) (by decide +kernel) rfl
theorem wd_94 : Cond.selects "BabyRoundModel" yX9_cryIf yX9_cryIf ∈ x_tbl := x_tb (i := 94) (by decide +kernel) rfl
theorem wd_95 : Cond.selects "BabyRoundModel" yX9_cryInSight yX9_cryInSight ∈ x_tbl := x_tb (i := 95) (by decide +kernel) rfl
theorem wd_96 : Cond.selects "BabyRoundModel" yX9_rounds yX9_rounds ∈ x_tbl := x_tb (i := 96) (by decide +kernel) rfl
theorem wd_97 : Cond.selects "BabyRoundModel" yX9_fewestOther yX9_fewestOther ∈ x_tbl := x_tb (i := 97) (by decide +kernel) rfl
theorem wd_98 : Cond.selects "BabyRoundModel" yX9_fillsRests yX9_fillsRests ∈ x_tbl := x_tb (i := 98) (by decide +kernel) rfl
theorem wd_99 : Cond.selects "BabyRoundModel" yX9_isResting yX9_isResting ∈ x_tbl := x_tb (i := 99) (by decide +kernel) rfl
theorem wd_100 : Cond.selects "BabyRoundModel" yX9_isSo yX9_isSo ∈ x_tbl := x_tb (i := 100) (by decide +kernel) rfl
theorem wd_102 : Cond.initialized "BabyRound" ∈ x_tbl := x_tb (i := 102) (by decide +kernel) rfl
theorem wd_103 : Cond.initialized "BabyRound$Told" ∈ x_tbl := x_tb (i := 103) (by decide +kernel) rfl
theorem wd_104 : Cond.initialized "BabyRound$Laws" ∈ x_tbl := x_tb (i := 104) (by decide +kernel) rfl
theorem wd_105 : Cond.initialized "BabyRound$Reader" ∈ x_tbl := x_tb (i := 105) (by decide +kernel) rfl
theorem wd_106 : Cond.initialized "BabyRound$Day" ∈ x_tbl := x_tb (i := 106) (by decide +kernel) rfl
theorem wd_107 : Cond.initialized "BabyRound$State" ∈ x_tbl := x_tb (i := 107) (by decide +kernel) rfl
theorem wd_108 : Cond.initialized "BabyRound$Undoing" ∈ x_tbl := x_tb (i := 108) (by decide +kernel) rfl
theorem wd_109 : Cond.initialized "BabyRound$Orders" ∈ x_tbl := x_tb (i := 109) (by decide +kernel) rfl
theorem wd_110 : Cond.initialized "BabyRound$Least" ∈ x_tbl := x_tb (i := 110) (by decide +kernel) rfl
theorem wd_111 : Cond.initialized "BabyRoundModel" ∈ x_tbl := x_tb (i := 111) (by decide +kernel) rfl
theorem wd_116 : Cond.initialized "java/lang/Math" ∈ x_tbl := x_tb (i := 116) (by decide +kernel) rfl
theorem wd_137 : Cond.fieldLink "BabyRound$Laws" 11 "BabyRound$Laws" "steps" "[I" ∈ x_tbl := x_tb (i := 137) (by decide +kernel) rfl
theorem wd_138 : Cond.fieldLink "BabyRound$Laws" 27 "BabyRound$Laws" "stepCount" "I" ∈ x_tbl := x_tb (i := 138) (by decide +kernel) rfl
theorem wd_139 : Cond.fieldLink "BabyRound$Laws" 15 "BabyRound$Laws" "pieces" "[I" ∈ x_tbl := x_tb (i := 139) (by decide +kernel) rfl
theorem wd_140 : Cond.fieldLink "BabyRound$Laws" 31 "BabyRound$Laws" "pieceCount" "I" ∈ x_tbl := x_tb (i := 140) (by decide +kernel) rfl
theorem wd_141 : Cond.fieldLink "BabyRound$Laws" 18 "BabyRound$Laws" "firstPiece" "[I" ∈ x_tbl := x_tb (i := 141) (by decide +kernel) rfl
theorem wd_142 : Cond.fieldLink "BabyRound$Laws" 21 "BabyRound$Laws" "ifs" "[I" ∈ x_tbl := x_tb (i := 142) (by decide +kernel) rfl
theorem wd_143 : Cond.fieldLink "BabyRound$Laws" 24 "BabyRound$Laws" "stack" "[I" ∈ x_tbl := x_tb (i := 143) (by decide +kernel) rfl
theorem wd_144 : Cond.fieldLink "BabyRound$Laws" 56 "BabyRound$Laws" "divided" "Z" ∈ x_tbl := x_tb (i := 144) (by decide +kernel) rfl
theorem wd_164 : Cond.fieldLink "BabyRound$Day" 15 "BabyRound$Told" "hunger" "I" ∈ x_tbl := x_tb (i := 164) (by decide +kernel) rfl
theorem wd_165 : Cond.fieldLink "BabyRound$Told" 58 "BabyRound$Told" "hunger" "I" ∈ x_tbl := x_tb (i := 165) (by decide +kernel) rfl
theorem wd_166 : Cond.fieldLink "BabyRound$Day" 24 "BabyRound$Told" "tired" "I" ∈ x_tbl := x_tb (i := 166) (by decide +kernel) rfl
theorem wd_167 : Cond.fieldLink "BabyRound$Told" 61 "BabyRound$Told" "tired" "I" ∈ x_tbl := x_tb (i := 167) (by decide +kernel) rfl
theorem wd_168 : Cond.fieldLink "BabyRound$Day" 28 "BabyRound$Told" "wonder" "I" ∈ x_tbl := x_tb (i := 168) (by decide +kernel) rfl
theorem wd_169 : Cond.fieldLink "BabyRound$Told" 64 "BabyRound$Told" "wonder" "I" ∈ x_tbl := x_tb (i := 169) (by decide +kernel) rfl
theorem wd_170 : Cond.fieldLink "BabyRound$Day" 32 "BabyRound$Told" "wind" "I" ∈ x_tbl := x_tb (i := 170) (by decide +kernel) rfl
theorem wd_171 : Cond.fieldLink "BabyRound$Told" 67 "BabyRound$Told" "wind" "I" ∈ x_tbl := x_tb (i := 171) (by decide +kernel) rfl
theorem wd_172 : Cond.fieldLink "BabyRound$Told" 42 "BabyRound$Told" "fresh" "I" ∈ x_tbl := x_tb (i := 172) (by decide +kernel) rfl
theorem wd_173 : Cond.fieldLink "BabyRound$Day" 144 "BabyRound$Told" "fresh" "I" ∈ x_tbl := x_tb (i := 173) (by decide +kernel) rfl
theorem wd_174 : Cond.fieldLink "BabyRound$Reader" 180 "BabyRound$Told" "fresh" "I" ∈ x_tbl := x_tb (i := 174) (by decide +kernel) rfl
theorem wd_175 : Cond.fieldLink "BabyRound" 316 "BabyRound$Told" "fresh" "I" ∈ x_tbl := x_tb (i := 175) (by decide +kernel) rfl
theorem wd_176 : Cond.fieldLink "BabyRound$Told" 46 "BabyRound$Told" "feeds" "I" ∈ x_tbl := x_tb (i := 176) (by decide +kernel) rfl
theorem wd_177 : Cond.fieldLink "BabyRound$Day" 153 "BabyRound$Told" "feeds" "I" ∈ x_tbl := x_tb (i := 177) (by decide +kernel) rfl
theorem wd_178 : Cond.fieldLink "BabyRound$Reader" 183 "BabyRound$Told" "feeds" "I" ∈ x_tbl := x_tb (i := 178) (by decide +kernel) rfl
theorem wd_179 : Cond.fieldLink "BabyRound" 319 "BabyRound$Told" "feeds" "I" ∈ x_tbl := x_tb (i := 179) (by decide +kernel) rfl
theorem wd_180 : Cond.fieldLink "BabyRound$Told" 49 "BabyRound$Told" "seed" "I" ∈ x_tbl := x_tb (i := 180) (by decide +kernel) rfl
theorem wd_181 : Cond.fieldLink "BabyRound$Day" 36 "BabyRound$Told" "seed" "I" ∈ x_tbl := x_tb (i := 181) (by decide +kernel) rfl
theorem wd_182 : Cond.fieldLink "BabyRound$Reader" 186 "BabyRound$Told" "seed" "I" ∈ x_tbl := x_tb (i := 182) (by decide +kernel) rfl
theorem wd_183 : Cond.fieldLink "BabyRound" 293 "BabyRound$Told" "seed" "I" ∈ x_tbl := x_tb (i := 183) (by decide +kernel) rfl
theorem wd_184 : Cond.fieldLink "BabyRound$Told" 52 "BabyRound$Told" "aunts" "I" ∈ x_tbl := x_tb (i := 184) (by decide +kernel) rfl
theorem wd_185 : Cond.fieldLink "BabyRound$Day" 74 "BabyRound$Told" "aunts" "I" ∈ x_tbl := x_tb (i := 185) (by decide +kernel) rfl
theorem wd_186 : Cond.fieldLink "BabyRound$Orders" 66 "BabyRound$Told" "aunts" "I" ∈ x_tbl := x_tb (i := 186) (by decide +kernel) rfl
theorem wd_187 : Cond.fieldLink "BabyRound" 161 "BabyRound$Told" "aunts" "I" ∈ x_tbl := x_tb (i := 187) (by decide +kernel) rfl
theorem wd_188 : Cond.fieldLink "BabyRound$Reader" 170 "BabyRound$Told" "aunts" "I" ∈ x_tbl := x_tb (i := 188) (by decide +kernel) rfl
theorem wd_189 : Cond.fieldLink "BabyRound$Told" 9 "BabyRound$Told" "names" "[J" ∈ x_tbl := x_tb (i := 189) (by decide +kernel) rfl
theorem wd_190 : Cond.fieldLink "BabyRound$Told" 15 "BabyRound$Told" "rock" "[I" ∈ x_tbl := x_tb (i := 190) (by decide +kernel) rfl
theorem wd_191 : Cond.fieldLink "BabyRound$Day" 87 "BabyRound$Told" "rock" "[I" ∈ x_tbl := x_tb (i := 191) (by decide +kernel) rfl
theorem wd_192 : Cond.fieldLink "BabyRound" 172 "BabyRound$Told" "rock" "[I" ∈ x_tbl := x_tb (i := 192) (by decide +kernel) rfl
theorem wd_193 : Cond.fieldLink "BabyRound$Told" 19 "BabyRound$Told" "show" "[I" ∈ x_tbl := x_tb (i := 193) (by decide +kernel) rfl
theorem wd_194 : Cond.fieldLink "BabyRound$Day" 96 "BabyRound$Told" "show" "[I" ∈ x_tbl := x_tb (i := 194) (by decide +kernel) rfl
theorem wd_195 : Cond.fieldLink "BabyRound$Told" 22 "BabyRound$Told" "beard" "[I" ∈ x_tbl := x_tb (i := 195) (by decide +kernel) rfl
theorem wd_196 : Cond.fieldLink "BabyRound$Day" 101 "BabyRound$Told" "beard" "[I" ∈ x_tbl := x_tb (i := 196) (by decide +kernel) rfl
theorem wd_197 : Cond.fieldLink "BabyRound$Told" 25 "BabyRound$Told" "silk" "[I" ∈ x_tbl := x_tb (i := 197) (by decide +kernel) rfl
theorem wd_198 : Cond.fieldLink "BabyRound$Day" 140 "BabyRound$Told" "silk" "[I" ∈ x_tbl := x_tb (i := 198) (by decide +kernel) rfl
theorem wd_199 : Cond.fieldLink "BabyRound$Told" 28 "BabyRound$Told" "sits" "[I" ∈ x_tbl := x_tb (i := 199) (by decide +kernel) rfl
theorem wd_200 : Cond.fieldLink "BabyRound$Orders" 120 "BabyRound$Told" "sits" "[I" ∈ x_tbl := x_tb (i := 200) (by decide +kernel) rfl
theorem wd_201 : Cond.fieldLink "BabyRound$Told" 34 "BabyRound$Told" "laws" "LBabyRound$Laws;" ∈ x_tbl := x_tb (i := 201) (by decide +kernel) rfl
theorem wd_202 : Cond.fieldLink "BabyRound$Day" 113 "BabyRound$Told" "laws" "LBabyRound$Laws;" ∈ x_tbl := x_tb (i := 202) (by decide +kernel) rfl
theorem wd_203 : Cond.fieldLink "BabyRound" 182 "BabyRound$Told" "laws" "LBabyRound$Laws;" ∈ x_tbl := x_tb (i := 203) (by decide +kernel) rfl
theorem wd_204 : Cond.fieldLink "BabyRound$Reader" 189 "BabyRound$Told" "laws" "LBabyRound$Laws;" ∈ x_tbl := x_tb (i := 204) (by decide +kernel) rfl
theorem wd_244 : Cond.fieldLink "BabyRound$Reader" 11 "BabyRound$Reader" "tape" "[C" ∈ x_tbl := x_tb (i := 244) (by decide +kernel) rfl
theorem wd_245 : Cond.fieldLink "BabyRound$Reader" 43 "BabyRound$Reader" "length" "I" ∈ x_tbl := x_tb (i := 245) (by decide +kernel) rfl
theorem wd_246 : Cond.fieldLink "BabyRound" 310 "BabyRound$Reader" "length" "I" ∈ x_tbl := x_tb (i := 246) (by decide +kernel) rfl
theorem wd_247 : Cond.fieldLink "BabyRound$Reader" 15 "BabyRound$Reader" "kinds" "[I" ∈ x_tbl := x_tb (i := 247) (by decide +kernel) rfl
theorem wd_248 : Cond.fieldLink "BabyRound$Reader" 19 "BabyRound$Reader" "worths" "[J" ∈ x_tbl := x_tb (i := 248) (by decide +kernel) rfl
theorem wd_249 : Cond.fieldLink "BabyRound$Reader" 23 "BabyRound$Reader" "places" "[I" ∈ x_tbl := x_tb (i := 249) (by decide +kernel) rfl
theorem wd_250 : Cond.fieldLink "BabyRound$Reader" 70 "BabyRound$Reader" "tokens" "I" ∈ x_tbl := x_tb (i := 250) (by decide +kernel) rfl
theorem wd_251 : Cond.fieldLink "BabyRound$Reader" 59 "BabyRound$Reader" "here" "I" ∈ x_tbl := x_tb (i := 251) (by decide +kernel) rfl
theorem wd_252 : Cond.fieldLink "BabyRound$Reader" 26 "BabyRound$Reader" "numbers" "[I" ∈ x_tbl := x_tb (i := 252) (by decide +kernel) rfl
theorem wd_253 : Cond.fieldLink "BabyRound$Reader" 29 "BabyRound$Reader" "waiting" "[I" ∈ x_tbl := x_tb (i := 253) (by decide +kernel) rfl
theorem wd_254 : Cond.fieldLink "BabyRound$Reader" 204 "BabyRound$Reader" "waitingCount" "I" ∈ x_tbl := x_tb (i := 254) (by decide +kernel) rfl
theorem wd_255 : Cond.fieldLink "BabyRound$Reader" 50 "BabyRound$Reader" "fault" "I" ∈ x_tbl := x_tb (i := 255) (by decide +kernel) rfl
theorem wd_256 : Cond.fieldLink "BabyRound$Reader" 32 "BabyRound$Reader" "faultPlace" "I" ∈ x_tbl := x_tb (i := 256) (by decide +kernel) rfl
theorem wd_257 : Cond.fieldLink "BabyRound" 122 "BabyRound$Reader" "faultPlace" "I" ∈ x_tbl := x_tb (i := 257) (by decide +kernel) rfl
theorem wd_258 : Cond.fieldLink "BabyRound$Reader" 39 "BabyRound$Reader" "told" "LBabyRound$Told;" ∈ x_tbl := x_tb (i := 258) (by decide +kernel) rfl
theorem wd_259 : Cond.fieldLink "BabyRound" 109 "BabyRound$Reader" "told" "LBabyRound$Told;" ∈ x_tbl := x_tb (i := 259) (by decide +kernel) rfl
theorem wd_294 : Cond.fieldLink "BabyRound$Day" 9 "BabyRound$Day" "told" "LBabyRound$Told;" ∈ x_tbl := x_tb (i := 294) (by decide +kernel) rfl
theorem wd_295 : Cond.fieldLink "BabyRound$Orders" 60 "BabyRound$Day" "told" "LBabyRound$Told;" ∈ x_tbl := x_tb (i := 295) (by decide +kernel) rfl
theorem wd_305 : Cond.fieldLink "BabyRound$State" 25 "BabyRound$State" "hunger" "I" ∈ x_tbl := x_tb (i := 305) (by decide +kernel) rfl
theorem wd_306 : Cond.fieldLink "BabyRound$Day" 21 "BabyRound$State" "hunger" "I" ∈ x_tbl := x_tb (i := 306) (by decide +kernel) rfl
theorem wd_307 : Cond.fieldLink "BabyRound" 125 "BabyRound$State" "hunger" "I" ∈ x_tbl := x_tb (i := 307) (by decide +kernel) rfl
theorem wd_308 : Cond.fieldLink "BabyRound$State" 28 "BabyRound$State" "tired" "I" ∈ x_tbl := x_tb (i := 308) (by decide +kernel) rfl
theorem wd_309 : Cond.fieldLink "BabyRound$Day" 27 "BabyRound$State" "tired" "I" ∈ x_tbl := x_tb (i := 309) (by decide +kernel) rfl
theorem wd_310 : Cond.fieldLink "BabyRound" 128 "BabyRound$State" "tired" "I" ∈ x_tbl := x_tb (i := 310) (by decide +kernel) rfl
theorem wd_311 : Cond.fieldLink "BabyRound$State" 31 "BabyRound$State" "wonder" "I" ∈ x_tbl := x_tb (i := 311) (by decide +kernel) rfl
theorem wd_312 : Cond.fieldLink "BabyRound$Day" 31 "BabyRound$State" "wonder" "I" ∈ x_tbl := x_tb (i := 312) (by decide +kernel) rfl
theorem wd_313 : Cond.fieldLink "BabyRound" 131 "BabyRound$State" "wonder" "I" ∈ x_tbl := x_tb (i := 313) (by decide +kernel) rfl
theorem wd_314 : Cond.fieldLink "BabyRound$State" 34 "BabyRound$State" "wind" "I" ∈ x_tbl := x_tb (i := 314) (by decide +kernel) rfl
theorem wd_315 : Cond.fieldLink "BabyRound$Day" 35 "BabyRound$State" "wind" "I" ∈ x_tbl := x_tb (i := 315) (by decide +kernel) rfl
theorem wd_316 : Cond.fieldLink "BabyRound" 134 "BabyRound$State" "wind" "I" ∈ x_tbl := x_tb (i := 316) (by decide +kernel) rfl
theorem wd_317 : Cond.fieldLink "BabyRound$State" 37 "BabyRound$State" "held" "I" ∈ x_tbl := x_tb (i := 317) (by decide +kernel) rfl
theorem wd_318 : Cond.fieldLink "BabyRound$Day" 84 "BabyRound$State" "held" "I" ∈ x_tbl := x_tb (i := 318) (by decide +kernel) rfl
theorem wd_319 : Cond.fieldLink "BabyRound" 140 "BabyRound$State" "held" "I" ∈ x_tbl := x_tb (i := 319) (by decide +kernel) rfl
theorem wd_320 : Cond.fieldLink "BabyRound$State" 40 "BabyRound$State" "rock" "I" ∈ x_tbl := x_tb (i := 320) (by decide +kernel) rfl
theorem wd_321 : Cond.fieldLink "BabyRound$Day" 94 "BabyRound$State" "rock" "I" ∈ x_tbl := x_tb (i := 321) (by decide +kernel) rfl
theorem wd_322 : Cond.fieldLink "BabyRound" 263 "BabyRound$State" "rock" "I" ∈ x_tbl := x_tb (i := 322) (by decide +kernel) rfl
theorem wd_323 : Cond.fieldLink "BabyRound$State" 43 "BabyRound$State" "show" "I" ∈ x_tbl := x_tb (i := 323) (by decide +kernel) rfl
theorem wd_324 : Cond.fieldLink "BabyRound$Day" 99 "BabyRound$State" "show" "I" ∈ x_tbl := x_tb (i := 324) (by decide +kernel) rfl
theorem wd_325 : Cond.fieldLink "BabyRound$State" 46 "BabyRound$State" "beard" "I" ∈ x_tbl := x_tb (i := 325) (by decide +kernel) rfl
theorem wd_326 : Cond.fieldLink "BabyRound$Day" 104 "BabyRound$State" "beard" "I" ∈ x_tbl := x_tb (i := 326) (by decide +kernel) rfl
theorem wd_327 : Cond.fieldLink "BabyRound$Day" 40 "BabyRound$State" "seen" "I" ∈ x_tbl := x_tb (i := 327) (by decide +kernel) rfl
theorem wd_328 : Cond.fieldLink "BabyRound$State" 49 "BabyRound$State" "seen" "I" ∈ x_tbl := x_tb (i := 328) (by decide +kernel) rfl
theorem wd_329 : Cond.fieldLink "BabyRound" 152 "BabyRound$State" "seen" "I" ∈ x_tbl := x_tb (i := 329) (by decide +kernel) rfl
theorem wd_330 : Cond.fieldLink "BabyRound$State" 9 "BabyRound$State" "who" "I" ∈ x_tbl := x_tb (i := 330) (by decide +kernel) rfl
theorem wd_331 : Cond.fieldLink "BabyRound$Day" 81 "BabyRound$State" "who" "I" ∈ x_tbl := x_tb (i := 331) (by decide +kernel) rfl
theorem wd_332 : Cond.fieldLink "BabyRound" 137 "BabyRound$State" "who" "I" ∈ x_tbl := x_tb (i := 332) (by decide +kernel) rfl
theorem wd_333 : Cond.fieldLink "BabyRound$State" 15 "BabyRound$State" "before" "I" ∈ x_tbl := x_tb (i := 333) (by decide +kernel) rfl
theorem wd_334 : Cond.fieldLink "BabyRound$Day" 43 "BabyRound$State" "before" "I" ∈ x_tbl := x_tb (i := 334) (by decide +kernel) rfl
theorem wd_335 : Cond.fieldLink "BabyRound" 155 "BabyRound$State" "before" "I" ∈ x_tbl := x_tb (i := 335) (by decide +kernel) rfl
theorem wd_336 : Cond.fieldLink "BabyRound$State" 18 "BabyRound$State" "earlier" "I" ∈ x_tbl := x_tb (i := 336) (by decide +kernel) rfl
theorem wd_337 : Cond.fieldLink "BabyRound$Day" 46 "BabyRound$State" "earlier" "I" ∈ x_tbl := x_tb (i := 337) (by decide +kernel) rfl
theorem wd_338 : Cond.fieldLink "BabyRound" 158 "BabyRound$State" "earlier" "I" ∈ x_tbl := x_tb (i := 338) (by decide +kernel) rfl
theorem wd_339 : Cond.fieldLink "BabyRound$Day" 49 "BabyRound$State" "cry" "I" ∈ x_tbl := x_tb (i := 339) (by decide +kernel) rfl
theorem wd_340 : Cond.fieldLink "BabyRound$State" 52 "BabyRound$State" "cry" "I" ∈ x_tbl := x_tb (i := 340) (by decide +kernel) rfl
theorem wd_341 : Cond.fieldLink "BabyRound" 143 "BabyRound$State" "cry" "I" ∈ x_tbl := x_tb (i := 341) (by decide +kernel) rfl
theorem wd_342 : Cond.fieldLink "BabyRound$Day" 52 "BabyRound$State" "asleep" "I" ∈ x_tbl := x_tb (i := 342) (by decide +kernel) rfl
theorem wd_343 : Cond.fieldLink "BabyRound$State" 55 "BabyRound$State" "asleep" "I" ∈ x_tbl := x_tb (i := 343) (by decide +kernel) rfl
theorem wd_344 : Cond.fieldLink "BabyRound" 146 "BabyRound$State" "asleep" "I" ∈ x_tbl := x_tb (i := 344) (by decide +kernel) rfl
theorem wd_345 : Cond.fieldLink "BabyRound$Day" 55 "BabyRound$State" "cloth" "I" ∈ x_tbl := x_tb (i := 345) (by decide +kernel) rfl
theorem wd_346 : Cond.fieldLink "BabyRound$State" 58 "BabyRound$State" "cloth" "I" ∈ x_tbl := x_tb (i := 346) (by decide +kernel) rfl
theorem wd_347 : Cond.fieldLink "BabyRound" 149 "BabyRound$State" "cloth" "I" ∈ x_tbl := x_tb (i := 347) (by decide +kernel) rfl
theorem wd_348 : Cond.fieldLink "BabyRound$Day" 58 "BabyRound$State" "minute" "I" ∈ x_tbl := x_tb (i := 348) (by decide +kernel) rfl
theorem wd_349 : Cond.fieldLink "BabyRound$State" 61 "BabyRound$State" "minute" "I" ∈ x_tbl := x_tb (i := 349) (by decide +kernel) rfl
theorem wd_350 : Cond.fieldLink "BabyRound" 199 "BabyRound$State" "minute" "I" ∈ x_tbl := x_tb (i := 350) (by decide +kernel) rfl
theorem wd_351 : Cond.fieldLink "BabyRound$Day" 39 "BabyRound$State" "seed" "I" ∈ x_tbl := x_tb (i := 351) (by decide +kernel) rfl
theorem wd_352 : Cond.fieldLink "BabyRound$State" 64 "BabyRound$State" "seed" "I" ∈ x_tbl := x_tb (i := 352) (by decide +kernel) rfl
theorem wd_353 : Cond.fieldLink "BabyRound" 296 "BabyRound$State" "seed" "I" ∈ x_tbl := x_tb (i := 353) (by decide +kernel) rfl
theorem wd_354 : Cond.fieldLink "BabyRound$Day" 61 "BabyRound$State" "falls" "I" ∈ x_tbl := x_tb (i := 354) (by decide +kernel) rfl
theorem wd_355 : Cond.fieldLink "BabyRound$State" 67 "BabyRound$State" "falls" "I" ∈ x_tbl := x_tb (i := 355) (by decide +kernel) rfl
theorem wd_356 : Cond.fieldLink "BabyRound$Orders" 78 "BabyRound$State" "falls" "I" ∈ x_tbl := x_tb (i := 356) (by decide +kernel) rfl
theorem wd_357 : Cond.fieldLink "BabyRound" 304 "BabyRound$State" "falls" "I" ∈ x_tbl := x_tb (i := 357) (by decide +kernel) rfl
theorem wd_358 : Cond.fieldLink "BabyRound$Day" 64 "BabyRound$State" "handed" "I" ∈ x_tbl := x_tb (i := 358) (by decide +kernel) rfl
theorem wd_359 : Cond.fieldLink "BabyRound$State" 70 "BabyRound$State" "handed" "I" ∈ x_tbl := x_tb (i := 359) (by decide +kernel) rfl
theorem wd_360 : Cond.fieldLink "BabyRound" 307 "BabyRound$State" "handed" "I" ∈ x_tbl := x_tb (i := 360) (by decide +kernel) rfl
theorem wd_361 : Cond.fieldLink "BabyRound$Day" 67 "BabyRound$State" "had" "I" ∈ x_tbl := x_tb (i := 361) (by decide +kernel) rfl
theorem wd_362 : Cond.fieldLink "BabyRound$State" 73 "BabyRound$State" "had" "I" ∈ x_tbl := x_tb (i := 362) (by decide +kernel) rfl
theorem wd_363 : Cond.fieldLink "BabyRound" 322 "BabyRound$State" "had" "I" ∈ x_tbl := x_tb (i := 363) (by decide +kernel) rfl
theorem wd_364 : Cond.fieldLink "BabyRound$State" 21 "BabyRound$State" "tally" "[I" ∈ x_tbl := x_tb (i := 364) (by decide +kernel) rfl
theorem wd_365 : Cond.fieldLink "BabyRound$Day" 70 "BabyRound$State" "tally" "[I" ∈ x_tbl := x_tb (i := 365) (by decide +kernel) rfl
theorem wd_418 : Cond.fieldLink "BabyRound$Undoing" 11 "BabyRound$Undoing" "rows" "[LBabyRound$State;" ∈ x_tbl := x_tb (i := 418) (by decide +kernel) rfl
theorem wd_419 : Cond.fieldLink "BabyRound$Undoing" 18 "BabyRound$Undoing" "size" "I" ∈ x_tbl := x_tb (i := 419) (by decide +kernel) rfl
theorem wd_420 : Cond.fieldLink "BabyRound" 313 "BabyRound$Undoing" "size" "I" ∈ x_tbl := x_tb (i := 420) (by decide +kernel) rfl
theorem wd_421 : Cond.fieldLink "BabyRound$Undoing" 22 "BabyRound$Undoing" "behindLast" "I" ∈ x_tbl := x_tb (i := 421) (by decide +kernel) rfl
theorem wd_422 : Cond.fieldLink "BabyRound$Undoing" 25 "BabyRound$Undoing" "changes" "I" ∈ x_tbl := x_tb (i := 422) (by decide +kernel) rfl
theorem wd_423 : Cond.fieldLink "BabyRound" 233 "BabyRound$Undoing" "changes" "I" ∈ x_tbl := x_tb (i := 423) (by decide +kernel) rfl
theorem wd_447 : Cond.fieldLink "BabyRound$Least" 13 "BabyRound$Least" "which" "I" ∈ x_tbl := x_tb (i := 447) (by decide +kernel) rfl
theorem wd_448 : Cond.fieldLink "BabyRound" 275 "BabyRound$Least" "which" "I" ∈ x_tbl := x_tb (i := 448) (by decide +kernel) rfl
theorem wd_449 : Cond.fieldLink "BabyRound$Least" 17 "BabyRound$Least" "worth" "I" ∈ x_tbl := x_tb (i := 449) (by decide +kernel) rfl
theorem wd_450 : Cond.fieldLink "BabyRound$Orders" 131 "BabyRound$Least" "worth" "I" ∈ x_tbl := x_tb (i := 450) (by decide +kernel) rfl
theorem wd_451 : Cond.fieldLink "BabyRound" 243 "BabyRound$Least" "worth" "I" ∈ x_tbl := x_tb (i := 451) (by decide +kernel) rfl
theorem wd_452 : Cond.fieldLink "BabyRound$Least" 7 "BabyRound$Least" "any" "Z" ∈ x_tbl := x_tb (i := 452) (by decide +kernel) rfl
theorem wd_453 : Cond.fieldLink "BabyRound$Orders" 127 "BabyRound$Least" "any" "Z" ∈ x_tbl := x_tb (i := 453) (by decide +kernel) rfl
theorem wd_461 : Cond.fieldLink "BabyRound$Orders" 45 "BabyRound$Orders" "day" "LBabyRound$Day;" ∈ x_tbl := x_tb (i := 461) (by decide +kernel) rfl
theorem wd_462 : Cond.fieldLink "BabyRound$Orders" 11 "BabyRound$Orders" "rows" "[LBabyRound$State;" ∈ x_tbl := x_tb (i := 462) (by decide +kernel) rfl
theorem wd_463 : Cond.fieldLink "BabyRound$Orders" 17 "BabyRound$Orders" "sleepers" "[I" ∈ x_tbl := x_tb (i := 463) (by decide +kernel) rfl
theorem wd_464 : Cond.fieldLink "BabyRound$Orders" 22 "BabyRound$Orders" "nowhere" "LBabyRound$State;" ∈ x_tbl := x_tb (i := 464) (by decide +kernel) rfl
theorem wd_465 : Cond.fieldLink "BabyRound$Orders" 26 "BabyRound$Orders" "auntsInOrder" "[I" ∈ x_tbl := x_tb (i := 465) (by decide +kernel) rfl
theorem wd_466 : Cond.fieldLink "BabyRound$Orders" 29 "BabyRound$Orders" "bestOrder" "[I" ∈ x_tbl := x_tb (i := 466) (by decide +kernel) rfl
theorem wd_467 : Cond.fieldLink "BabyRound" 246 "BabyRound$Orders" "bestOrder" "[I" ∈ x_tbl := x_tb (i := 467) (by decide +kernel) rfl
theorem wd_468 : Cond.fieldLink "BabyRound$Orders" 32 "BabyRound$Orders" "lucky" "[I" ∈ x_tbl := x_tb (i := 468) (by decide +kernel) rfl
theorem wd_469 : Cond.fieldLink "BabyRound" 252 "BabyRound$Orders" "lucky" "[I" ∈ x_tbl := x_tb (i := 469) (by decide +kernel) rfl
theorem wd_470 : Cond.fieldLink "BabyRound$Orders" 38 "BabyRound$Orders" "crying" "LBabyRound$Least;" ∈ x_tbl := x_tb (i := 470) (by decide +kernel) rfl
theorem wd_471 : Cond.fieldLink "BabyRound" 240 "BabyRound$Orders" "crying" "LBabyRound$Least;" ∈ x_tbl := x_tb (i := 471) (by decide +kernel) rfl
theorem wd_472 : Cond.fieldLink "BabyRound$Orders" 42 "BabyRound$Orders" "apart" "LBabyRound$Least;" ∈ x_tbl := x_tb (i := 472) (by decide +kernel) rfl
theorem wd_473 : Cond.fieldLink "BabyRound" 272 "BabyRound$Orders" "apart" "LBabyRound$Least;" ∈ x_tbl := x_tb (i := 473) (by decide +kernel) rfl
theorem wd_474 : Cond.fieldLink "BabyRound$Orders" 102 "BabyRound$Orders" "sitting" "I" ∈ x_tbl := x_tb (i := 474) (by decide +kernel) rfl
theorem wd_475 : Cond.fieldLink "BabyRound" 249 "BabyRound$Orders" "sitting" "I" ∈ x_tbl := x_tb (i := 475) (by decide +kernel) rfl
theorem wd_476 : Cond.fieldLink "BabyRound$Orders" 49 "BabyRound$Orders" "searchedMinutes" "I" ∈ x_tbl := x_tb (i := 476) (by decide +kernel) rfl
theorem wd_477 : Cond.fieldLink "BabyRound$Orders" 53 "BabyRound$Orders" "searchedChange" "I" ∈ x_tbl := x_tb (i := 477) (by decide +kernel) rfl
theorem wd_506 : Cond.instanceMethod yX6_begin ∈ x_tbl := x_tb (i := 506) (by decide +kernel) rfl
theorem wd_507 : Cond.selects "BabyRound$Told" yX6_begin yX6_begin ∈ x_tbl := x_tb (i := 507) (by decide +kernel) rfl
theorem wd_508 : Cond.code yX6_begin cX6_begin 1 none ∈ x_tbl := x_tb (i := 508) (by decide +kernel) rfl
theorem wd_509 : Cond.methodLink "BabyRound$Told" 38 yX6_tellBaby ∈ x_tbl := x_tb (i := 509) (by decide +kernel) rfl
theorem wd_510 : Cond.instanceMethod yX6_tellBaby ∈ x_tbl := x_tb (i := 510) (by decide +kernel) rfl
theorem wd_511 : Cond.selects "BabyRound$Told" yX6_tellBaby yX6_tellBaby ∈ x_tbl := x_tb (i := 511) (by decide +kernel) rfl
theorem wd_512 : Cond.code yX6_tellBaby cX6_tellBaby 5 none ∈ x_tbl := x_tb (i := 512) (by decide +kernel) rfl
theorem wd_513 : Cond.methodLink "BabyRound$Told" 55 yX1_begin ∈ x_tbl := x_tb (i := 513) (by decide +kernel) rfl
theorem wd_514 : Cond.instanceMethod yX1_begin ∈ x_tbl := x_tb (i := 514) (by decide +kernel) rfl
theorem wd_515 : Cond.selects "BabyRound$Laws" yX1_begin yX1_begin ∈ x_tbl := x_tb (i := 515) (by decide +kernel) rfl
theorem wd_516 : Cond.code yX1_begin cX1_begin 2 none ∈ x_tbl := x_tb (i := 516) (by decide +kernel) rfl
theorem wd_517 : Cond.methodLink "BabyRound$Laws" 34 yX1_beginLaw ∈ x_tbl := x_tb (i := 517) (by decide +kernel) rfl
theorem wd_518 : Cond.instanceMethod yX1_beginLaw ∈ x_tbl := x_tb (i := 518) (by decide +kernel) rfl
theorem wd_519 : Cond.selects "BabyRound$Laws" yX1_beginLaw yX1_beginLaw ∈ x_tbl := x_tb (i := 519) (by decide +kernel) rfl
theorem wd_520 : Cond.code yX1_beginLaw cX1_beginLaw 2 none ∈ x_tbl := x_tb (i := 520) (by decide +kernel) rfl
theorem wd_522 : Cond.static yX8_put ∈ x_tbl := x_tb (i := 522) (by decide +kernel) rfl
theorem wd_523 : Cond.code yX8_put cX8_put 3 none ∈ x_tbl := x_tb (i := 523) (by decide +kernel) rfl
theorem wd_524 : Cond.methodLink "BabyRound$Laws" 38 yX1_addStep ∈ x_tbl := x_tb (i := 524) (by decide +kernel) rfl
theorem wd_525 : Cond.instanceMethod yX1_addStep ∈ x_tbl := x_tb (i := 525) (by decide +kernel) rfl
theorem wd_526 : Cond.selects "BabyRound$Laws" yX1_addStep yX1_addStep ∈ x_tbl := x_tb (i := 526) (by decide +kernel) rfl
theorem wd_527 : Cond.code yX1_addStep cX1_addStep 2 none ∈ x_tbl := x_tb (i := 527) (by decide +kernel) rfl
theorem wd_528 : Cond.methodLink "BabyRound$Laws" 41 yX1_endPiece ∈ x_tbl := x_tb (i := 528) (by decide +kernel) rfl
theorem wd_529 : Cond.instanceMethod yX1_endPiece ∈ x_tbl := x_tb (i := 529) (by decide +kernel) rfl
theorem wd_530 : Cond.selects "BabyRound$Laws" yX1_endPiece yX1_endPiece ∈ x_tbl := x_tb (i := 530) (by decide +kernel) rfl
theorem wd_531 : Cond.code yX1_endPiece cX1_endPiece 1 none ∈ x_tbl := x_tb (i := 531) (by decide +kernel) rfl
theorem wd_532 : Cond.methodLink "BabyRound" 94 yX0_begin ∈ x_tbl := x_tb (i := 532) (by decide +kernel) rfl
theorem wd_533 : Cond.instanceMethod yX0_begin ∈ x_tbl := x_tb (i := 533) (by decide +kernel) rfl
theorem wd_534 : Cond.selects "BabyRound$Day" yX0_begin yX0_begin ∈ x_tbl := x_tb (i := 534) (by decide +kernel) rfl
theorem wd_535 : Cond.code yX0_begin cX0_begin 3 none ∈ x_tbl := x_tb (i := 535) (by decide +kernel) rfl
theorem wd_536 : Cond.methodLink "BabyRound$Day" 77 yX0_giveTo ∈ x_tbl := x_tb (i := 536) (by decide +kernel) rfl
theorem wd_538 : Cond.instanceMethod yX0_giveTo ∈ x_tbl := x_tb (i := 538) (by decide +kernel) rfl
theorem wd_539 : Cond.code yX0_giveTo cX0_giveTo 3 none ∈ x_tbl := x_tb (i := 539) (by decide +kernel) rfl
theorem wd_541 : Cond.static yX8_at ∈ x_tbl := x_tb (i := 541) (by decide +kernel) rfl
theorem wd_542 : Cond.code yX8_at cX8_at 2 (some .int) ∈ x_tbl := x_tb (i := 542) (by decide +kernel) rfl
theorem wd_543 : Cond.fieldLink "BabyRound" 19 "BabyRound" "told" "LBabyRound$Told;" ∈ x_tbl := x_tb (i := 543) (by decide +kernel) rfl
theorem wd_544 : Cond.fieldLink "BabyRound" 28 "BabyRound" "reader" "LBabyRound$Reader;" ∈ x_tbl := x_tb (i := 544) (by decide +kernel) rfl
theorem wd_545 : Cond.fieldLink "BabyRound" 37 "BabyRound" "day" "LBabyRound$Day;" ∈ x_tbl := x_tb (i := 545) (by decide +kernel) rfl
theorem wd_546 : Cond.fieldLink "BabyRound" 44 "BabyRound" "state" "LBabyRound$State;" ∈ x_tbl := x_tb (i := 546) (by decide +kernel) rfl
theorem wd_547 : Cond.fieldLink "BabyRound" 48 "BabyRound" "would" "LBabyRound$State;" ∈ x_tbl := x_tb (i := 547) (by decide +kernel) rfl
theorem wd_548 : Cond.fieldLink "BabyRound" 54 "BabyRound" "undoing" "LBabyRound$Undoing;" ∈ x_tbl := x_tb (i := 548) (by decide +kernel) rfl
theorem wd_549 : Cond.fieldLink "BabyRound" 58 "BabyRound" "slots" "[LBabyRound$State;" ∈ x_tbl := x_tb (i := 549) (by decide +kernel) rfl
theorem wd_550 : Cond.fieldLink "BabyRound" 62 "BabyRound" "slotHolds" "[I" ∈ x_tbl := x_tb (i := 550) (by decide +kernel) rfl
theorem wd_551 : Cond.fieldLink "BabyRound" 71 "BabyRound" "orders" "LBabyRound$Orders;" ∈ x_tbl := x_tb (i := 551) (by decide +kernel) rfl
theorem wd_552 : Cond.fieldLink "BabyRound" 78 "BabyRound" "least" "LBabyRound$Least;" ∈ x_tbl := x_tb (i := 552) (by decide +kernel) rfl
theorem wd_553 : Cond.fieldLink "BabyRound" 82 "BabyRound" "laughs" "[I" ∈ x_tbl := x_tb (i := 553) (by decide +kernel) rfl
theorem wd_554 : Cond.fieldLink "BabyRound" 85 "BabyRound" "toldMinutes" "[I" ∈ x_tbl := x_tb (i := 554) (by decide +kernel) rfl
theorem wd_555 : Cond.fieldLink "BabyRound" 88 "BabyRound" "toldCries" "[I" ∈ x_tbl := x_tb (i := 555) (by decide +kernel) rfl
theorem wd_556 : Cond.fieldLink "BabyRound" 114 "BabyRound" "toldCount" "I" ∈ x_tbl := x_tb (i := 556) (by decide +kernel) rfl
theorem wd_590 : Cond.methodLink "BabyRound" 97 yX4_addBytes ∈ x_tbl := x_tb (i := 590) (by decide +kernel) rfl
theorem wd_591 : Cond.instanceMethod yX4_addBytes ∈ x_tbl := x_tb (i := 591) (by decide +kernel) rfl
theorem wd_592 : Cond.selects "BabyRound$Reader" yX4_addBytes yX4_addBytes ∈ x_tbl := x_tb (i := 592) (by decide +kernel) rfl
theorem wd_593 : Cond.code yX4_addBytes cX4_addBytes 6 (some .int) ∈ x_tbl := x_tb (i := 593) (by decide +kernel) rfl
theorem wd_594 : Cond.methodLink "BabyRound$Reader" 46 yX4_addFour ∈ x_tbl := x_tb (i := 594) (by decide +kernel) rfl
theorem wd_596 : Cond.instanceMethod yX4_addFour ∈ x_tbl := x_tb (i := 596) (by decide +kernel) rfl
theorem wd_597 : Cond.code yX4_addFour cX4_addFour 3 none ∈ x_tbl := x_tb (i := 597) (by decide +kernel) rfl
theorem wd_602 : Cond.methodLink "BabyRound" 101 yX4_dropBytes ∈ x_tbl := x_tb (i := 602) (by decide +kernel) rfl
theorem wd_603 : Cond.instanceMethod yX4_dropBytes ∈ x_tbl := x_tb (i := 603) (by decide +kernel) rfl
theorem wd_604 : Cond.selects "BabyRound$Reader" yX4_dropBytes yX4_dropBytes ∈ x_tbl := x_tb (i := 604) (by decide +kernel) rfl
theorem wd_605 : Cond.code yX4_dropBytes cX4_dropBytes 2 (some .int) ∈ x_tbl := x_tb (i := 605) (by decide +kernel) rfl
theorem wd_610 : Cond.methodLink "BabyRound" 105 yX4_readTape ∈ x_tbl := x_tb (i := 610) (by decide +kernel) rfl
theorem wd_611 : Cond.instanceMethod yX4_readTape ∈ x_tbl := x_tb (i := 611) (by decide +kernel) rfl
theorem wd_612 : Cond.selects "BabyRound$Reader" yX4_readTape yX4_readTape ∈ x_tbl := x_tb (i := 612) (by decide +kernel) rfl
theorem wd_613 : Cond.code yX4_readTape cX4_readTape 3 (some .int) ∈ x_tbl := x_tb (i := 613) (by decide +kernel) rfl
theorem wd_614 : Cond.methodLink "BabyRound$Reader" 53 yX6_begin ∈ x_tbl := x_tb (i := 614) (by decide +kernel) rfl
theorem wd_615 : Cond.methodLink "BabyRound$Reader" 56 yX4_scan ∈ x_tbl := x_tb (i := 615) (by decide +kernel) rfl
theorem wd_617 : Cond.instanceMethod yX4_scan ∈ x_tbl := x_tb (i := 617) (by decide +kernel) rfl
theorem wd_618 : Cond.code yX4_scan cX4_scan 4 none ∈ x_tbl := x_tb (i := 618) (by decide +kernel) rfl
theorem wd_619 : Cond.methodLink "BabyRound$Reader" 73 yX4_byteAt ∈ x_tbl := x_tb (i := 619) (by decide +kernel) rfl
theorem wd_621 : Cond.instanceMethod yX4_byteAt ∈ x_tbl := x_tb (i := 621) (by decide +kernel) rfl
theorem wd_622 : Cond.code yX4_byteAt cX4_byteAt 2 (some .char) ∈ x_tbl := x_tb (i := 622) (by decide +kernel) rfl
theorem wd_623 : Cond.methodLink "BabyRound$Reader" 77 yX4_isBlank ∈ x_tbl := x_tb (i := 623) (by decide +kernel) rfl
theorem wd_624 : Cond.static yX4_isBlank ∈ x_tbl := x_tb (i := 624) (by decide +kernel) rfl
theorem wd_625 : Cond.code yX4_isBlank cX4_isBlank 1 (some .boolean) ∈ x_tbl := x_tb (i := 625) (by decide +kernel) rfl
theorem wd_626 : Cond.methodLink "BabyRound$Reader" 81 yX4_endOfRun ∈ x_tbl := x_tb (i := 626) (by decide +kernel) rfl
theorem wd_628 : Cond.instanceMethod yX4_endOfRun ∈ x_tbl := x_tb (i := 628) (by decide +kernel) rfl
theorem wd_629 : Cond.code yX4_endOfRun cX4_endOfRun 5 (some .int) ∈ x_tbl := x_tb (i := 629) (by decide +kernel) rfl
theorem wd_630 : Cond.methodLink "BabyRound$Reader" 93 yX4_isLetter ∈ x_tbl := x_tb (i := 630) (by decide +kernel) rfl
theorem wd_631 : Cond.static yX4_isLetter ∈ x_tbl := x_tb (i := 631) (by decide +kernel) rfl
theorem wd_632 : Cond.code yX4_isLetter cX4_isLetter 1 (some .boolean) ∈ x_tbl := x_tb (i := 632) (by decide +kernel) rfl
theorem wd_633 : Cond.methodLink "BabyRound$Reader" 96 yX4_isDigit ∈ x_tbl := x_tb (i := 633) (by decide +kernel) rfl
theorem wd_634 : Cond.static yX4_isDigit ∈ x_tbl := x_tb (i := 634) (by decide +kernel) rfl
theorem wd_635 : Cond.code yX4_isDigit cX4_isDigit 1 (some .boolean) ∈ x_tbl := x_tb (i := 635) (by decide +kernel) rfl
theorem wd_636 : Cond.methodLink "BabyRound$Reader" 85 yX4_addToken ∈ x_tbl := x_tb (i := 636) (by decide +kernel) rfl
theorem wd_638 : Cond.instanceMethod yX4_addToken ∈ x_tbl := x_tb (i := 638) (by decide +kernel) rfl
theorem wd_639 : Cond.code yX4_addToken cX4_addToken 5 none ∈ x_tbl := x_tb (i := 639) (by decide +kernel) rfl
theorem wd_640 : Cond.methodLink "BabyRound$Reader" 99 yX4_addWord ∈ x_tbl := x_tb (i := 640) (by decide +kernel) rfl
theorem wd_642 : Cond.instanceMethod yX4_addWord ∈ x_tbl := x_tb (i := 642) (by decide +kernel) rfl
theorem wd_643 : Cond.code yX4_addWord cX4_addWord 4 none ∈ x_tbl := x_tb (i := 643) (by decide +kernel) rfl
theorem wd_644 : Cond.methodLink "BabyRound$Reader" 89 yX4_addRow ∈ x_tbl := x_tb (i := 644) (by decide +kernel) rfl
theorem wd_646 : Cond.instanceMethod yX4_addRow ∈ x_tbl := x_tb (i := 646) (by decide +kernel) rfl
theorem wd_647 : Cond.code yX4_addRow cX4_addRow 5 none ∈ x_tbl := x_tb (i := 647) (by decide +kernel) rfl
theorem wd_649 : Cond.methodLink "BabyRound$Reader" 110 yX4_wordAt ∈ x_tbl := x_tb (i := 649) (by decide +kernel) rfl
theorem wd_651 : Cond.instanceMethod yX4_wordAt ∈ x_tbl := x_tb (i := 651) (by decide +kernel) rfl
theorem wd_652 : Cond.code yX4_wordAt cX4_wordAt 8 (some .int) ∈ x_tbl := x_tb (i := 652) (by decide +kernel) rfl
theorem wd_702 : Cond.methodLink "BabyRound$Reader" 113 yX4_nameAt ∈ x_tbl := x_tb (i := 702) (by decide +kernel) rfl
theorem wd_704 : Cond.instanceMethod yX4_nameAt ∈ x_tbl := x_tb (i := 704) (by decide +kernel) rfl
theorem wd_705 : Cond.code yX4_nameAt cX4_nameAt 6 (some .long) ∈ x_tbl := x_tb (i := 705) (by decide +kernel) rfl
theorem wd_706 : Cond.constantLong "BabyRound$Reader" 126 27 ∈ x_tbl := x_tb (i := 706) (by decide +kernel) rfl
theorem wd_707 : Cond.methodLink "BabyRound$Reader" 102 yX4_numberAt ∈ x_tbl := x_tb (i := 707) (by decide +kernel) rfl
theorem wd_709 : Cond.instanceMethod yX4_numberAt ∈ x_tbl := x_tb (i := 709) (by decide +kernel) rfl
theorem wd_710 : Cond.code yX4_numberAt cX4_numberAt 5 (some .int) ∈ x_tbl := x_tb (i := 710) (by decide +kernel) rfl
theorem wd_711 : Cond.methodLink "BabyRound$Reader" 106 yX4_isSign ∈ x_tbl := x_tb (i := 711) (by decide +kernel) rfl
theorem wd_712 : Cond.static yX4_isSign ∈ x_tbl := x_tb (i := 712) (by decide +kernel) rfl
theorem wd_713 : Cond.code yX4_isSign cX4_isSign 1 (some .boolean) ∈ x_tbl := x_tb (i := 713) (by decide +kernel) rfl
theorem wd_714 : Cond.methodLink "BabyRound$Reader" 62 yX4_kind ∈ x_tbl := x_tb (i := 714) (by decide +kernel) rfl
theorem wd_716 : Cond.instanceMethod yX4_kind ∈ x_tbl := x_tb (i := 716) (by decide +kernel) rfl
theorem wd_717 : Cond.code yX4_kind cX4_kind 1 (some .int) ∈ x_tbl := x_tb (i := 717) (by decide +kernel) rfl
theorem wd_719 : Cond.methodLink "BabyRound$Reader" 66 yX4_tellOne ∈ x_tbl := x_tb (i := 719) (by decide +kernel) rfl
theorem wd_721 : Cond.instanceMethod yX4_tellOne ∈ x_tbl := x_tb (i := 721) (by decide +kernel) rfl
theorem wd_722 : Cond.code yX4_tellOne cX4_tellOne 2 (some .boolean) ∈ x_tbl := x_tb (i := 722) (by decide +kernel) rfl
theorem wd_723 : Cond.methodLink "BabyRound$Reader" 151 yX4_tellAunt ∈ x_tbl := x_tb (i := 723) (by decide +kernel) rfl
theorem wd_725 : Cond.instanceMethod yX4_tellAunt ∈ x_tbl := x_tb (i := 725) (by decide +kernel) rfl
theorem wd_726 : Cond.code yX4_tellAunt cX4_tellAunt 4 (some .boolean) ∈ x_tbl := x_tb (i := 726) (by decide +kernel) rfl
theorem wd_727 : Cond.methodLink "BabyRound$Reader" 136 yX4_fail ∈ x_tbl := x_tb (i := 727) (by decide +kernel) rfl
theorem wd_729 : Cond.instanceMethod yX4_fail ∈ x_tbl := x_tb (i := 729) (by decide +kernel) rfl
theorem wd_730 : Cond.code yX4_fail cX4_fail 2 (some .boolean) ∈ x_tbl := x_tb (i := 730) (by decide +kernel) rfl
theorem wd_731 : Cond.methodLink "BabyRound$Reader" 139 yX4_take ∈ x_tbl := x_tb (i := 731) (by decide +kernel) rfl
theorem wd_733 : Cond.instanceMethod yX4_take ∈ x_tbl := x_tb (i := 733) (by decide +kernel) rfl
theorem wd_734 : Cond.code yX4_take cX4_take 1 (some .boolean) ∈ x_tbl := x_tb (i := 734) (by decide +kernel) rfl
theorem wd_735 : Cond.methodLink "BabyRound$Reader" 142 yX4_worth ∈ x_tbl := x_tb (i := 735) (by decide +kernel) rfl
theorem wd_737 : Cond.instanceMethod yX4_worth ∈ x_tbl := x_tb (i := 737) (by decide +kernel) rfl
theorem wd_738 : Cond.code yX4_worth cX4_worth 1 (some .long) ∈ x_tbl := x_tb (i := 738) (by decide +kernel) rfl
theorem wd_739 : Cond.methodLink "BabyRound$Reader" 173 yX6_knows ∈ x_tbl := x_tb (i := 739) (by decide +kernel) rfl
theorem wd_740 : Cond.instanceMethod yX6_knows ∈ x_tbl := x_tb (i := 740) (by decide +kernel) rfl
theorem wd_741 : Cond.selects "BabyRound$Told" yX6_knows yX6_knows ∈ x_tbl := x_tb (i := 741) (by decide +kernel) rfl
theorem wd_742 : Cond.code yX6_knows cX6_knows 4 (some .boolean) ∈ x_tbl := x_tb (i := 742) (by decide +kernel) rfl
theorem wd_743 : Cond.methodLink "BabyRound$Reader" 146 yX4_note ∈ x_tbl := x_tb (i := 743) (by decide +kernel) rfl
theorem wd_745 : Cond.instanceMethod yX4_note ∈ x_tbl := x_tb (i := 745) (by decide +kernel) rfl
theorem wd_746 : Cond.code yX4_note cX4_note 2 none ∈ x_tbl := x_tb (i := 746) (by decide +kernel) rfl
theorem wd_747 : Cond.methodLink "BabyRound$Reader" 149 yX4_take_ ∈ x_tbl := x_tb (i := 747) (by decide +kernel) rfl
theorem wd_749 : Cond.instanceMethod yX4_take_ ∈ x_tbl := x_tb (i := 749) (by decide +kernel) rfl
theorem wd_750 : Cond.code yX4_take_ cX4_take_ 2 (some .boolean) ∈ x_tbl := x_tb (i := 750) (by decide +kernel) rfl
theorem wd_751 : Cond.methodLink "BabyRound$Reader" 163 yX4_takeNumbers ∈ x_tbl := x_tb (i := 751) (by decide +kernel) rfl
theorem wd_753 : Cond.instanceMethod yX4_takeNumbers ∈ x_tbl := x_tb (i := 753) (by decide +kernel) rfl
theorem wd_754 : Cond.code yX4_takeNumbers cX4_takeNumbers 6 (some .boolean) ∈ x_tbl := x_tb (i := 754) (by decide +kernel) rfl
theorem wd_755 : Cond.methodLink "BabyRound$Reader" 177 yX6_tellAunt ∈ x_tbl := x_tb (i := 755) (by decide +kernel) rfl
theorem wd_756 : Cond.instanceMethod yX6_tellAunt ∈ x_tbl := x_tb (i := 756) (by decide +kernel) rfl
theorem wd_757 : Cond.selects "BabyRound$Told" yX6_tellAunt yX6_tellAunt ∈ x_tbl := x_tb (i := 757) (by decide +kernel) rfl
theorem wd_758 : Cond.code yX6_tellAunt cX6_tellAunt 5 none ∈ x_tbl := x_tb (i := 758) (by decide +kernel) rfl
theorem wd_761 : Cond.methodLink "BabyRound$Reader" 154 yX4_tellBaby ∈ x_tbl := x_tb (i := 761) (by decide +kernel) rfl
theorem wd_763 : Cond.instanceMethod yX4_tellBaby ∈ x_tbl := x_tb (i := 763) (by decide +kernel) rfl
theorem wd_764 : Cond.code yX4_tellBaby cX4_tellBaby 2 (some .boolean) ∈ x_tbl := x_tb (i := 764) (by decide +kernel) rfl
theorem wd_765 : Cond.methodLink "BabyRound$Reader" 167 yX6_tellBaby ∈ x_tbl := x_tb (i := 765) (by decide +kernel) rfl
theorem wd_766 : Cond.methodLink "BabyRound$Reader" 157 yX4_tellLaw ∈ x_tbl := x_tb (i := 766) (by decide +kernel) rfl
theorem wd_768 : Cond.instanceMethod yX4_tellLaw ∈ x_tbl := x_tb (i := 768) (by decide +kernel) rfl
theorem wd_769 : Cond.code yX4_tellLaw cX4_tellLaw 3 (some .boolean) ∈ x_tbl := x_tb (i := 769) (by decide +kernel) rfl
theorem wd_770 : Cond.methodLink "BabyRound$Reader" 193 yX1_beginLaw ∈ x_tbl := x_tb (i := 770) (by decide +kernel) rfl
theorem wd_771 : Cond.methodLink "BabyRound$Reader" 198 yX4_takePiece ∈ x_tbl := x_tb (i := 771) (by decide +kernel) rfl
theorem wd_773 : Cond.instanceMethod yX4_takePiece ∈ x_tbl := x_tb (i := 773) (by decide +kernel) rfl
theorem wd_774 : Cond.code yX4_takePiece cX4_takePiece 7 (some .boolean) ∈ x_tbl := x_tb (i := 774) (by decide +kernel) rfl
theorem wd_775 : Cond.methodLink "BabyRound$Reader" 207 yX4_addWaiting ∈ x_tbl := x_tb (i := 775) (by decide +kernel) rfl
theorem wd_777 : Cond.instanceMethod yX4_addWaiting ∈ x_tbl := x_tb (i := 777) (by decide +kernel) rfl
theorem wd_778 : Cond.code yX4_addWaiting cX4_addWaiting 2 none ∈ x_tbl := x_tb (i := 778) (by decide +kernel) rfl
theorem wd_779 : Cond.methodLink "BabyRound$Reader" 210 yX4_addUnit ∈ x_tbl := x_tb (i := 779) (by decide +kernel) rfl
theorem wd_781 : Cond.instanceMethod yX4_addUnit ∈ x_tbl := x_tb (i := 781) (by decide +kernel) rfl
theorem wd_782 : Cond.code yX4_addUnit cX4_addUnit 2 (some .boolean) ∈ x_tbl := x_tb (i := 782) (by decide +kernel) rfl
theorem wd_783 : Cond.methodLink "BabyRound$Reader" 222 yX1_addStep ∈ x_tbl := x_tb (i := 783) (by decide +kernel) rfl
theorem wd_784 : Cond.methodLink "BabyRound$Reader" 213 yX4_rank ∈ x_tbl := x_tb (i := 784) (by decide +kernel) rfl
theorem wd_785 : Cond.static yX4_rank ∈ x_tbl := x_tb (i := 785) (by decide +kernel) rfl
theorem wd_786 : Cond.code yX4_rank cX4_rank 1 (some .int) ∈ x_tbl := x_tb (i := 786) (by decide +kernel) rfl
theorem wd_787 : Cond.methodLink "BabyRound$Reader" 216 yX4_endWaiting ∈ x_tbl := x_tb (i := 787) (by decide +kernel) rfl
theorem wd_789 : Cond.instanceMethod yX4_endWaiting ∈ x_tbl := x_tb (i := 789) (by decide +kernel) rfl
theorem wd_790 : Cond.code yX4_endWaiting cX4_endWaiting 2 none ∈ x_tbl := x_tb (i := 790) (by decide +kernel) rfl
theorem wd_791 : Cond.methodLink "BabyRound$Reader" 219 yX1_endPiece ∈ x_tbl := x_tb (i := 791) (by decide +kernel) rfl
theorem wd_792 : Cond.methodLink "BabyRound$Reader" 201 yX1_addIf ∈ x_tbl := x_tb (i := 792) (by decide +kernel) rfl
theorem wd_793 : Cond.instanceMethod yX1_addIf ∈ x_tbl := x_tb (i := 793) (by decide +kernel) rfl
theorem wd_794 : Cond.selects "BabyRound$Laws" yX1_addIf yX1_addIf ∈ x_tbl := x_tb (i := 794) (by decide +kernel) rfl
theorem wd_795 : Cond.code yX1_addIf cX1_addIf 2 none ∈ x_tbl := x_tb (i := 795) (by decide +kernel) rfl
theorem wd_797 : Cond.methodLink "BabyRound$Reader" 160 yX4_tellNumber ∈ x_tbl := x_tb (i := 797) (by decide +kernel) rfl
theorem wd_799 : Cond.instanceMethod yX4_tellNumber ∈ x_tbl := x_tb (i := 799) (by decide +kernel) rfl
theorem wd_800 : Cond.code yX4_tellNumber cX4_tellNumber 3 (some .boolean) ∈ x_tbl := x_tb (i := 800) (by decide +kernel) rfl
theorem wd_801 : Cond.methodLink "BabyRound" 110 yX6_takeFrom ∈ x_tbl := x_tb (i := 801) (by decide +kernel) rfl
theorem wd_802 : Cond.instanceMethod yX6_takeFrom ∈ x_tbl := x_tb (i := 802) (by decide +kernel) rfl
theorem wd_803 : Cond.selects "BabyRound$Told" yX6_takeFrom yX6_takeFrom ∈ x_tbl := x_tb (i := 803) (by decide +kernel) rfl
theorem wd_804 : Cond.code yX6_takeFrom cX6_takeFrom 2 none ∈ x_tbl := x_tb (i := 804) (by decide +kernel) rfl
theorem wd_806 : Cond.static yX8_copy ∈ x_tbl := x_tb (i := 806) (by decide +kernel) rfl
theorem wd_807 : Cond.code yX8_copy cX8_copy 3 none ∈ x_tbl := x_tb (i := 807) (by decide +kernel) rfl
theorem wd_808 : Cond.methodLink "BabyRound$Told" 82 yX1_takeFrom ∈ x_tbl := x_tb (i := 808) (by decide +kernel) rfl
theorem wd_809 : Cond.instanceMethod yX1_takeFrom ∈ x_tbl := x_tb (i := 809) (by decide +kernel) rfl
theorem wd_810 : Cond.selects "BabyRound$Laws" yX1_takeFrom yX1_takeFrom ∈ x_tbl := x_tb (i := 810) (by decide +kernel) rfl
theorem wd_811 : Cond.code yX1_takeFrom cX1_takeFrom 2 none ∈ x_tbl := x_tb (i := 811) (by decide +kernel) rfl
theorem wd_813 : Cond.methodLink "BabyRound" 113 yX7_begin ∈ x_tbl := x_tb (i := 813) (by decide +kernel) rfl
theorem wd_814 : Cond.instanceMethod yX7_begin ∈ x_tbl := x_tb (i := 814) (by decide +kernel) rfl
theorem wd_815 : Cond.selects "BabyRound$Undoing" yX7_begin yX7_begin ∈ x_tbl := x_tb (i := 815) (by decide +kernel) rfl
theorem wd_816 : Cond.code yX7_begin cX7_begin 1 none ∈ x_tbl := x_tb (i := 816) (by decide +kernel) rfl
theorem wd_817 : Cond.methodLink "BabyRound" 118 yX8_put ∈ x_tbl := x_tb (i := 817) (by decide +kernel) rfl
theorem wd_831 : Cond.methodLink "BabyRound" 164 yX8_isAunt ∈ x_tbl := x_tb (i := 831) (by decide +kernel) rfl
theorem wd_833 : Cond.instanceMethod yX8_isAunt ∈ x_tbl := x_tb (i := 833) (by decide +kernel) rfl
theorem wd_834 : Cond.code yX8_isAunt cX8_isAunt 2 (some .boolean) ∈ x_tbl := x_tb (i := 834) (by decide +kernel) rfl
theorem wd_835 : Cond.methodLink "BabyRound" 168 yX8_between ∈ x_tbl := x_tb (i := 835) (by decide +kernel) rfl
theorem wd_836 : Cond.static yX8_between ∈ x_tbl := x_tb (i := 836) (by decide +kernel) rfl
theorem wd_837 : Cond.code yX8_between cX8_between 3 (some .boolean) ∈ x_tbl := x_tb (i := 837) (by decide +kernel) rfl
theorem wd_838 : Cond.methodLink "BabyRound" 175 yX8_at ∈ x_tbl := x_tb (i := 838) (by decide +kernel) rfl
theorem wd_839 : Cond.methodLink "BabyRound" 179 yX5_tallied ∈ x_tbl := x_tb (i := 839) (by decide +kernel) rfl
theorem wd_840 : Cond.instanceMethod yX5_tallied ∈ x_tbl := x_tb (i := 840) (by decide +kernel) rfl
theorem wd_841 : Cond.selects "BabyRound$State" yX5_tallied yX5_tallied ∈ x_tbl := x_tb (i := 841) (by decide +kernel) rfl
theorem wd_842 : Cond.code yX5_tallied cX5_tallied 3 (some .int) ∈ x_tbl := x_tb (i := 842) (by decide +kernel) rfl
theorem wd_848 : Cond.methodLink "BabyRound" 186 yX1_tells ∈ x_tbl := x_tb (i := 848) (by decide +kernel) rfl
theorem wd_849 : Cond.instanceMethod yX1_tells ∈ x_tbl := x_tb (i := 849) (by decide +kernel) rfl
theorem wd_850 : Cond.selects "BabyRound$Laws" yX1_tells yX1_tells ∈ x_tbl := x_tb (i := 850) (by decide +kernel) rfl
theorem wd_851 : Cond.code yX1_tells cX1_tells 9 (some .int) ∈ x_tbl := x_tb (i := 851) (by decide +kernel) rfl
theorem wd_852 : Cond.methodLink "BabyRound$Laws" 60 yX1_value ∈ x_tbl := x_tb (i := 852) (by decide +kernel) rfl
theorem wd_854 : Cond.instanceMethod yX1_value ∈ x_tbl := x_tb (i := 854) (by decide +kernel) rfl
theorem wd_855 : Cond.code yX1_value cX1_value 7 (some .int) ∈ x_tbl := x_tb (i := 855) (by decide +kernel) rfl
theorem wd_856 : Cond.methodLink "BabyRound$Laws" 74 yX5_look ∈ x_tbl := x_tb (i := 856) (by decide +kernel) rfl
theorem wd_857 : Cond.instanceMethod yX5_look ∈ x_tbl := x_tb (i := 857) (by decide +kernel) rfl
theorem wd_858 : Cond.selects "BabyRound$State" yX5_look yX5_look ∈ x_tbl := x_tb (i := 858) (by decide +kernel) rfl
theorem wd_859 : Cond.code yX5_look cX5_look 2 (some .int) ∈ x_tbl := x_tb (i := 859) (by decide +kernel) rfl
theorem wd_860 : Cond.methodLink "BabyRound$Laws" 80 yX1_join ∈ x_tbl := x_tb (i := 860) (by decide +kernel) rfl
theorem wd_862 : Cond.instanceMethod yX1_join ∈ x_tbl := x_tb (i := 862) (by decide +kernel) rfl
theorem wd_863 : Cond.code yX1_join cX1_join 4 (some .int) ∈ x_tbl := x_tb (i := 863) (by decide +kernel) rfl
theorem wd_869 : Cond.static yX8_within ∈ x_tbl := x_tb (i := 869) (by decide +kernel) rfl
theorem wd_870 : Cond.code yX8_within cX8_within 3 (some .int) ∈ x_tbl := x_tb (i := 870) (by decide +kernel) rfl
theorem wd_871 : Cond.methodLink "BabyRound" 1 Lib.Math.min.name ∈ x_tbl := x_tb (i := 871) (by decide +kernel) rfl
theorem wd_872 : Cond.static Lib.Math.min.name ∈ x_tbl := x_tb (i := 872) (by decide +kernel) rfl
theorem wd_873 : Cond.code Lib.Math.min.name Lib.Math.min.code 2 (some .int) ∈ x_tbl := x_tb (i := 873) (by decide +kernel) rfl
theorem wd_874 : Cond.methodLink "BabyRound" 7 Lib.Math.max.name ∈ x_tbl := x_tb (i := 874) (by decide +kernel) rfl
theorem wd_875 : Cond.static Lib.Math.max.name ∈ x_tbl := x_tb (i := 875) (by decide +kernel) rfl
theorem wd_876 : Cond.code Lib.Math.max.name Lib.Math.max.code 2 (some .int) ∈ x_tbl := x_tb (i := 876) (by decide +kernel) rfl
theorem wd_881 : Cond.methodLink "BabyRound" 192 yX7_note ∈ x_tbl := x_tb (i := 881) (by decide +kernel) rfl
theorem wd_882 : Cond.instanceMethod yX7_note ∈ x_tbl := x_tb (i := 882) (by decide +kernel) rfl
theorem wd_883 : Cond.selects "BabyRound$Undoing" yX7_note yX7_note ∈ x_tbl := x_tb (i := 883) (by decide +kernel) rfl
theorem wd_884 : Cond.code yX7_note cX7_note 2 none ∈ x_tbl := x_tb (i := 884) (by decide +kernel) rfl
theorem wd_885 : Cond.methodLink "BabyRound$Undoing" 28 yX5_takeFrom ∈ x_tbl := x_tb (i := 885) (by decide +kernel) rfl
theorem wd_886 : Cond.instanceMethod yX5_takeFrom ∈ x_tbl := x_tb (i := 886) (by decide +kernel) rfl
theorem wd_887 : Cond.selects "BabyRound$State" yX5_takeFrom yX5_takeFrom ∈ x_tbl := x_tb (i := 887) (by decide +kernel) rfl
theorem wd_888 : Cond.code yX5_takeFrom cX5_takeFrom 2 none ∈ x_tbl := x_tb (i := 888) (by decide +kernel) rfl
theorem wd_890 : Cond.methodLink "BabyRound$Undoing" 32 Lib.Math.min.name ∈ x_tbl := x_tb (i := 890) (by decide +kernel) rfl
theorem wd_891 : Cond.methodLink "BabyRound" 195 yX0_goOn ∈ x_tbl := x_tb (i := 891) (by decide +kernel) rfl
theorem wd_892 : Cond.instanceMethod yX0_goOn ∈ x_tbl := x_tb (i := 892) (by decide +kernel) rfl
theorem wd_893 : Cond.selects "BabyRound$Day" yX0_goOn yX0_goOn ∈ x_tbl := x_tb (i := 893) (by decide +kernel) rfl
theorem wd_894 : Cond.code yX0_goOn cX0_goOn 4 none ∈ x_tbl := x_tb (i := 894) (by decide +kernel) rfl
theorem wd_895 : Cond.methodLink "BabyRound$Day" 156 yX0_step ∈ x_tbl := x_tb (i := 895) (by decide +kernel) rfl
theorem wd_896 : Cond.instanceMethod yX0_step ∈ x_tbl := x_tb (i := 896) (by decide +kernel) rfl
theorem wd_897 : Cond.selects "BabyRound$Day" yX0_step yX0_step ∈ x_tbl := x_tb (i := 897) (by decide +kernel) rfl
theorem wd_898 : Cond.code yX0_step cX0_step 2 none ∈ x_tbl := x_tb (i := 898) (by decide +kernel) rfl
theorem wd_899 : Cond.methodLink "BabyRound$Day" 106 yX0_stepAsleep ∈ x_tbl := x_tb (i := 899) (by decide +kernel) rfl
theorem wd_901 : Cond.instanceMethod yX0_stepAsleep ∈ x_tbl := x_tb (i := 901) (by decide +kernel) rfl
theorem wd_902 : Cond.code yX0_stepAsleep cX0_stepAsleep 2 none ∈ x_tbl := x_tb (i := 902) (by decide +kernel) rfl
theorem wd_903 : Cond.methodLink "BabyRound$Day" 117 yX1_tells ∈ x_tbl := x_tb (i := 903) (by decide +kernel) rfl
theorem wd_905 : Cond.methodLink "BabyRound$Day" 127 yX5_tallyMore ∈ x_tbl := x_tb (i := 905) (by decide +kernel) rfl
theorem wd_906 : Cond.instanceMethod yX5_tallyMore ∈ x_tbl := x_tb (i := 906) (by decide +kernel) rfl
theorem wd_907 : Cond.selects "BabyRound$State" yX5_tallyMore yX5_tallyMore ∈ x_tbl := x_tb (i := 907) (by decide +kernel) rfl
theorem wd_908 : Cond.code yX5_tallyMore cX5_tallyMore 4 none ∈ x_tbl := x_tb (i := 908) (by decide +kernel) rfl
theorem wd_909 : Cond.methodLink "BabyRound$Day" 110 yX0_stepAwake ∈ x_tbl := x_tb (i := 909) (by decide +kernel) rfl
theorem wd_911 : Cond.instanceMethod yX0_stepAwake ∈ x_tbl := x_tb (i := 911) (by decide +kernel) rfl
theorem wd_912 : Cond.code yX0_stepAwake cX0_stepAwake 6 none ∈ x_tbl := x_tb (i := 912) (by decide +kernel) rfl
theorem wd_913 : Cond.methodLink "BabyRound$Day" 131 yX0_lot ∈ x_tbl := x_tb (i := 913) (by decide +kernel) rfl
theorem wd_914 : Cond.static yX0_lot ∈ x_tbl := x_tb (i := 914) (by decide +kernel) rfl
theorem wd_915 : Cond.code yX0_lot cX0_lot 4 (some .int) ∈ x_tbl := x_tb (i := 915) (by decide +kernel) rfl
theorem wd_916 : Cond.constant "BabyRound$Day" 143 (1103515245) ∈ x_tbl := x_tb (i := 916) (by decide +kernel) rfl
theorem wd_917 : Cond.methodLink "BabyRound$Day" 134 yX0_spit ∈ x_tbl := x_tb (i := 917) (by decide +kernel) rfl
theorem wd_919 : Cond.instanceMethod yX0_spit ∈ x_tbl := x_tb (i := 919) (by decide +kernel) rfl
theorem wd_920 : Cond.code yX0_spit cX0_spit 2 none ∈ x_tbl := x_tb (i := 920) (by decide +kernel) rfl
theorem wd_921 : Cond.methodLink "BabyRound$Day" 137 yX0_fallAsleep ∈ x_tbl := x_tb (i := 921) (by decide +kernel) rfl
theorem wd_922 : Cond.instanceMethod yX0_fallAsleep ∈ x_tbl := x_tb (i := 922) (by decide +kernel) rfl
theorem wd_923 : Cond.selects "BabyRound$Day" yX0_fallAsleep yX0_fallAsleep ∈ x_tbl := x_tb (i := 923) (by decide +kernel) rfl
theorem wd_924 : Cond.code yX0_fallAsleep cX0_fallAsleep 2 none ∈ x_tbl := x_tb (i := 924) (by decide +kernel) rfl
theorem wd_929 : Cond.methodLink "BabyRound" 202 yX0_giveOver ∈ x_tbl := x_tb (i := 929) (by decide +kernel) rfl
theorem wd_930 : Cond.instanceMethod yX0_giveOver ∈ x_tbl := x_tb (i := 930) (by decide +kernel) rfl
theorem wd_931 : Cond.selects "BabyRound$Day" yX0_giveOver yX0_giveOver ∈ x_tbl := x_tb (i := 931) (by decide +kernel) rfl
theorem wd_932 : Cond.code yX0_giveOver cX0_giveOver 3 none ∈ x_tbl := x_tb (i := 932) (by decide +kernel) rfl
theorem wd_933 : Cond.methodLink "BabyRound$Day" 147 Lib.Math.min.name ∈ x_tbl := x_tb (i := 933) (by decide +kernel) rfl
theorem wd_938 : Cond.methodLink "BabyRound" 205 yX8_asleepOrAlone ∈ x_tbl := x_tb (i := 938) (by decide +kernel) rfl
theorem wd_940 : Cond.instanceMethod yX8_asleepOrAlone ∈ x_tbl := x_tb (i := 940) (by decide +kernel) rfl
theorem wd_941 : Cond.code yX8_asleepOrAlone cX8_asleepOrAlone 1 (some .boolean) ∈ x_tbl := x_tb (i := 941) (by decide +kernel) rfl
theorem wd_942 : Cond.methodLink "BabyRound" 209 yX0_feedNow ∈ x_tbl := x_tb (i := 942) (by decide +kernel) rfl
theorem wd_943 : Cond.instanceMethod yX0_feedNow ∈ x_tbl := x_tb (i := 943) (by decide +kernel) rfl
theorem wd_944 : Cond.selects "BabyRound$Day" yX0_feedNow yX0_feedNow ∈ x_tbl := x_tb (i := 944) (by decide +kernel) rfl
theorem wd_945 : Cond.code yX0_feedNow cX0_feedNow 2 none ∈ x_tbl := x_tb (i := 945) (by decide +kernel) rfl
theorem wd_950 : Cond.methodLink "BabyRound" 212 yX0_fallAsleep ∈ x_tbl := x_tb (i := 950) (by decide +kernel) rfl
theorem wd_963 : Cond.methodLink "BabyRound" 215 yX7_giveBack ∈ x_tbl := x_tb (i := 963) (by decide +kernel) rfl
theorem wd_964 : Cond.instanceMethod yX7_giveBack ∈ x_tbl := x_tb (i := 964) (by decide +kernel) rfl
theorem wd_965 : Cond.selects "BabyRound$Undoing" yX7_giveBack yX7_giveBack ∈ x_tbl := x_tb (i := 965) (by decide +kernel) rfl
theorem wd_966 : Cond.code yX7_giveBack cX7_giveBack 2 (some .boolean) ∈ x_tbl := x_tb (i := 966) (by decide +kernel) rfl
theorem wd_971 : Cond.methodLink "BabyRound" 219 yX5_takeFrom ∈ x_tbl := x_tb (i := 971) (by decide +kernel) rfl
theorem wd_972 : Cond.methodLink "BabyRound" 221 yX0_cried ∈ x_tbl := x_tb (i := 972) (by decide +kernel) rfl
theorem wd_973 : Cond.instanceMethod yX0_cried ∈ x_tbl := x_tb (i := 973) (by decide +kernel) rfl
theorem wd_974 : Cond.selects "BabyRound$Day" yX0_cried yX0_cried ∈ x_tbl := x_tb (i := 974) (by decide +kernel) rfl
theorem wd_975 : Cond.code yX0_cried cX0_cried 5 (some .int) ∈ x_tbl := x_tb (i := 975) (by decide +kernel) rfl
theorem wd_976 : Cond.methodLink "BabyRound$Day" 159 yX5_allTallied ∈ x_tbl := x_tb (i := 976) (by decide +kernel) rfl
theorem wd_977 : Cond.instanceMethod yX5_allTallied ∈ x_tbl := x_tb (i := 977) (by decide +kernel) rfl
theorem wd_978 : Cond.selects "BabyRound$State" yX5_allTallied yX5_allTallied ∈ x_tbl := x_tb (i := 978) (by decide +kernel) rfl
theorem wd_979 : Cond.code yX5_allTallied cX5_allTallied 4 (some .int) ∈ x_tbl := x_tb (i := 979) (by decide +kernel) rfl
theorem wd_980 : Cond.methodLink "BabyRound$State" 84 yX5_tallied ∈ x_tbl := x_tb (i := 980) (by decide +kernel) rfl
theorem wd_985 : Cond.methodLink "BabyRound" 225 yX2_begin ∈ x_tbl := x_tb (i := 985) (by decide +kernel) rfl
theorem wd_986 : Cond.instanceMethod yX2_begin ∈ x_tbl := x_tb (i := 986) (by decide +kernel) rfl
theorem wd_987 : Cond.selects "BabyRound$Least" yX2_begin yX2_begin ∈ x_tbl := x_tb (i := 987) (by decide +kernel) rfl
theorem wd_988 : Cond.code yX2_begin cX2_begin 1 none ∈ x_tbl := x_tb (i := 988) (by decide +kernel) rfl
theorem wd_989 : Cond.methodLink "BabyRound" 226 yX2_offer ∈ x_tbl := x_tb (i := 989) (by decide +kernel) rfl
theorem wd_990 : Cond.instanceMethod yX2_offer ∈ x_tbl := x_tb (i := 990) (by decide +kernel) rfl
theorem wd_991 : Cond.selects "BabyRound$Least" yX2_offer yX2_offer ∈ x_tbl := x_tb (i := 991) (by decide +kernel) rfl
theorem wd_992 : Cond.code yX2_offer cX2_offer 3 none ∈ x_tbl := x_tb (i := 992) (by decide +kernel) rfl
theorem wd_993 : Cond.methodLink "BabyRound" 230 yX2_pick ∈ x_tbl := x_tb (i := 993) (by decide +kernel) rfl
theorem wd_994 : Cond.instanceMethod yX2_pick ∈ x_tbl := x_tb (i := 994) (by decide +kernel) rfl
theorem wd_995 : Cond.selects "BabyRound$Least" yX2_pick yX2_pick ∈ x_tbl := x_tb (i := 995) (by decide +kernel) rfl
theorem wd_996 : Cond.code yX2_pick cX2_pick 2 (some .int) ∈ x_tbl := x_tb (i := 996) (by decide +kernel) rfl
theorem wd_1001 : Cond.methodLink "BabyRound" 236 yX3_search ∈ x_tbl := x_tb (i := 1001) (by decide +kernel) rfl
theorem wd_1002 : Cond.instanceMethod yX3_search ∈ x_tbl := x_tb (i := 1002) (by decide +kernel) rfl
theorem wd_1003 : Cond.selects "BabyRound$Orders" yX3_search yX3_search ∈ x_tbl := x_tb (i := 1003) (by decide +kernel) rfl
theorem wd_1004 : Cond.code yX3_search cX3_search 11 none ∈ x_tbl := x_tb (i := 1004) (by decide +kernel) rfl
theorem wd_1005 : Cond.methodLink "BabyRound$Orders" 56 yX3_begin ∈ x_tbl := x_tb (i := 1005) (by decide +kernel) rfl
theorem wd_1007 : Cond.instanceMethod yX3_begin ∈ x_tbl := x_tb (i := 1007) (by decide +kernel) rfl
theorem wd_1008 : Cond.code yX3_begin cX3_begin 3 none ∈ x_tbl := x_tb (i := 1008) (by decide +kernel) rfl
theorem wd_1009 : Cond.methodLink "BabyRound$Orders" 71 yX3_row ∈ x_tbl := x_tb (i := 1009) (by decide +kernel) rfl
theorem wd_1011 : Cond.instanceMethod yX3_row ∈ x_tbl := x_tb (i := 1011) (by decide +kernel) rfl
theorem wd_1012 : Cond.code yX3_row cX3_row 3 (some (.object "BabyRound$State")) ∈ x_tbl := x_tb (i := 1012) (by decide +kernel) rfl
theorem wd_1013 : Cond.methodLink "BabyRound$Orders" 75 yX5_takeFrom ∈ x_tbl := x_tb (i := 1013) (by decide +kernel) rfl
theorem wd_1015 : Cond.methodLink "BabyRound$Orders" 100 yX2_begin ∈ x_tbl := x_tb (i := 1015) (by decide +kernel) rfl
theorem wd_1017 : Cond.methodLink "BabyRound$Orders" 85 yX0_keep ∈ x_tbl := x_tb (i := 1017) (by decide +kernel) rfl
theorem wd_1018 : Cond.instanceMethod yX0_keep ∈ x_tbl := x_tb (i := 1018) (by decide +kernel) rfl
theorem wd_1019 : Cond.selects "BabyRound$Day" yX0_keep yX0_keep ∈ x_tbl := x_tb (i := 1019) (by decide +kernel) rfl
theorem wd_1020 : Cond.code yX0_keep cX0_keep 6 none ∈ x_tbl := x_tb (i := 1020) (by decide +kernel) rfl
theorem wd_1021 : Cond.methodLink "BabyRound$Day" 163 yX0_giveOver ∈ x_tbl := x_tb (i := 1021) (by decide +kernel) rfl
theorem wd_1022 : Cond.methodLink "BabyRound$Orders" 93 yX3_weigh ∈ x_tbl := x_tb (i := 1022) (by decide +kernel) rfl
theorem wd_1024 : Cond.instanceMethod yX3_weigh ∈ x_tbl := x_tb (i := 1024) (by decide +kernel) rfl
theorem wd_1025 : Cond.code yX3_weigh cX3_weigh 8 none ∈ x_tbl := x_tb (i := 1025) (by decide +kernel) rfl
theorem wd_1026 : Cond.methodLink "BabyRound$Orders" 109 yX3_share ∈ x_tbl := x_tb (i := 1026) (by decide +kernel) rfl
theorem wd_1028 : Cond.instanceMethod yX3_share ∈ x_tbl := x_tb (i := 1028) (by decide +kernel) rfl
theorem wd_1029 : Cond.code yX3_share cX3_share 3 (some .int) ∈ x_tbl := x_tb (i := 1029) (by decide +kernel) rfl
theorem wd_1030 : Cond.methodLink "BabyRound$Orders" 105 yX5_tallied ∈ x_tbl := x_tb (i := 1030) (by decide +kernel) rfl
theorem wd_1031 : Cond.methodLink "BabyRound$Orders" 112 Lib.Math.max.name ∈ x_tbl := x_tb (i := 1031) (by decide +kernel) rfl
theorem wd_1032 : Cond.methodLink "BabyRound$Orders" 117 Lib.Math.min.name ∈ x_tbl := x_tb (i := 1032) (by decide +kernel) rfl
theorem wd_1033 : Cond.methodLink "BabyRound$Orders" 123 yX2_offer ∈ x_tbl := x_tb (i := 1033) (by decide +kernel) rfl
theorem wd_1035 : Cond.methodLink "BabyRound$Orders" 96 yX3_follow ∈ x_tbl := x_tb (i := 1035) (by decide +kernel) rfl
theorem wd_1037 : Cond.instanceMethod yX3_follow ∈ x_tbl := x_tb (i := 1037) (by decide +kernel) rfl
theorem wd_1038 : Cond.code yX3_follow cX3_follow 6 (some .int) ∈ x_tbl := x_tb (i := 1038) (by decide +kernel) rfl
theorem wd_1039 : Cond.methodLink "BabyRound$Orders" 138 yX3_change ∈ x_tbl := x_tb (i := 1039) (by decide +kernel) rfl
theorem wd_1041 : Cond.instanceMethod yX3_change ∈ x_tbl := x_tb (i := 1041) (by decide +kernel) rfl
theorem wd_1042 : Cond.code yX3_change cX3_change 4 none ∈ x_tbl := x_tb (i := 1042) (by decide +kernel) rfl
theorem wd_1059 : Cond.methodLink "BabyRound" 255 yX8_grant ∈ x_tbl := x_tb (i := 1059) (by decide +kernel) rfl
theorem wd_1061 : Cond.instanceMethod yX8_grant ∈ x_tbl := x_tb (i := 1061) (by decide +kernel) rfl
theorem wd_1062 : Cond.code yX8_grant cX8_grant 2 none ∈ x_tbl := x_tb (i := 1062) (by decide +kernel) rfl
theorem wd_1067 : Cond.constant "BabyRound" 259 (-100000) ∈ x_tbl := x_tb (i := 1067) (by decide +kernel) rfl
theorem wd_1068 : Cond.methodLink "BabyRound" 260 yX8_criedInSight ∈ x_tbl := x_tb (i := 1068) (by decide +kernel) rfl
theorem wd_1070 : Cond.instanceMethod yX8_criedInSight ∈ x_tbl := x_tb (i := 1070) (by decide +kernel) rfl
theorem wd_1071 : Cond.code yX8_criedInSight cX8_criedInSight 4 (some .int) ∈ x_tbl := x_tb (i := 1071) (by decide +kernel) rfl
theorem wd_1080 : Cond.methodLink "BabyRound" 265 yX0_goByRule ∈ x_tbl := x_tb (i := 1080) (by decide +kernel) rfl
theorem wd_1081 : Cond.instanceMethod yX0_goByRule ∈ x_tbl := x_tb (i := 1081) (by decide +kernel) rfl
theorem wd_1082 : Cond.selects "BabyRound$Day" yX0_goByRule yX0_goByRule ∈ x_tbl := x_tb (i := 1082) (by decide +kernel) rfl
theorem wd_1083 : Cond.code yX0_goByRule cX0_goByRule 7 none ∈ x_tbl := x_tb (i := 1083) (by decide +kernel) rfl
theorem wd_1084 : Cond.methodLink "BabyRound$Day" 166 yX0_behind ∈ x_tbl := x_tb (i := 1084) (by decide +kernel) rfl
theorem wd_1085 : Cond.instanceMethod yX0_behind ∈ x_tbl := x_tb (i := 1085) (by decide +kernel) rfl
theorem wd_1086 : Cond.selects "BabyRound$Day" yX0_behind yX0_behind ∈ x_tbl := x_tb (i := 1086) (by decide +kernel) rfl
theorem wd_1087 : Cond.code yX0_behind cX0_behind 2 (some .int) ∈ x_tbl := x_tb (i := 1087) (by decide +kernel) rfl
theorem wd_1088 : Cond.methodLink "BabyRound$Day" 169 yX0_fewest ∈ x_tbl := x_tb (i := 1088) (by decide +kernel) rfl
theorem wd_1090 : Cond.instanceMethod yX0_fewest ∈ x_tbl := x_tb (i := 1090) (by decide +kernel) rfl
theorem wd_1091 : Cond.code yX0_fewest cX0_fewest 4 (some .int) ∈ x_tbl := x_tb (i := 1091) (by decide +kernel) rfl
theorem wd_1092 : Cond.methodLink "BabyRound$Day" 173 yX5_tallied ∈ x_tbl := x_tb (i := 1092) (by decide +kernel) rfl
theorem wd_1093 : Cond.methodLink "BabyRound" 269 yX5_allTallied ∈ x_tbl := x_tb (i := 1093) (by decide +kernel) rfl
theorem wd_1102 : Cond.methodLink "BabyRound" 278 yX0_keep ∈ x_tbl := x_tb (i := 1102) (by decide +kernel) rfl
theorem wd_1119 : Cond.methodLink "BabyRound" 281 yX0_step ∈ x_tbl := x_tb (i := 1119) (by decide +kernel) rfl
theorem wd_1128 : Cond.methodLink "BabyRound" 284 yX8_laughInSet ∈ x_tbl := x_tb (i := 1128) (by decide +kernel) rfl
theorem wd_1130 : Cond.instanceMethod yX8_laughInSet ∈ x_tbl := x_tb (i := 1130) (by decide +kernel) rfl
theorem wd_1131 : Cond.code yX8_laughInSet cX8_laughInSet 5 none ∈ x_tbl := x_tb (i := 1131) (by decide +kernel) rfl
theorem wd_1132 : Cond.methodLink "BabyRound" 290 yX0_behind ∈ x_tbl := x_tb (i := 1132) (by decide +kernel) rfl
theorem wd_1133 : Cond.methodLink "BabyRound" 287 yX8_isAtRest ∈ x_tbl := x_tb (i := 1133) (by decide +kernel) rfl
theorem wd_1135 : Cond.instanceMethod yX8_isAtRest ∈ x_tbl := x_tb (i := 1135) (by decide +kernel) rfl
theorem wd_1136 : Cond.code yX8_isAtRest cX8_isAtRest 4 (some .boolean) ∈ x_tbl := x_tb (i := 1136) (by decide +kernel) rfl
theorem wd_1145 : Cond.methodLink "BabyRound" 297 yX8_commonDivisor ∈ x_tbl := x_tb (i := 1145) (by decide +kernel) rfl
theorem wd_1146 : Cond.static yX8_commonDivisor ∈ x_tbl := x_tb (i := 1146) (by decide +kernel) rfl
theorem wd_1147 : Cond.code yX8_commonDivisor cX8_commonDivisor 4 (some .int) ∈ x_tbl := x_tb (i := 1147) (by decide +kernel) rfl
theorem wd_1164 : Cond.methodLink "BabyRound" 300 yX8_criesAsTold ∈ x_tbl := x_tb (i := 1164) (by decide +kernel) rfl
theorem wd_1166 : Cond.instanceMethod yX8_criesAsTold ∈ x_tbl := x_tb (i := 1166) (by decide +kernel) rfl
theorem wd_1167 : Cond.code yX8_criesAsTold cX8_criesAsTold 5 (some .boolean) ∈ x_tbl := x_tb (i := 1167) (by decide +kernel) rfl
theorem wd_1186 : Cond.methodLink "BabyRoundModel" 152 yX9_plain ∈ x_tbl := x_tb (i := 1186) (by decide +kernel) rfl
theorem wd_1188 : Cond.instanceMethod yX9_plain ∈ x_tbl := x_tb (i := 1188) (by decide +kernel) rfl
theorem wd_1189 : Cond.code yX9_plain cX9_plain 3 none ∈ x_tbl := x_tb (i := 1189) (by decide +kernel) rfl
theorem wd_1193 : Cond.methodLink "BabyRoundModel" 177 yX9_appends ∈ x_tbl := x_tb (i := 1193) (by decide +kernel) rfl
theorem wd_1194 : Cond.static yX9_appends ∈ x_tbl := x_tb (i := 1194) (by decide +kernel) rfl
theorem wd_1195 : Cond.code yX9_appends cX9_appends 3 (some .long) ∈ x_tbl := x_tb (i := 1195) (by decide +kernel) rfl
theorem wd_1196 : Cond.constantLong "BabyRoundModel" 175 27 ∈ x_tbl := x_tb (i := 1196) (by decide +kernel) rfl
theorem wd_1197 : Cond.methodLink "BabyRoundModel" 160 yX9_begins ∈ x_tbl := x_tb (i := 1197) (by decide +kernel) rfl
theorem wd_1199 : Cond.instanceMethod yX9_begins ∈ x_tbl := x_tb (i := 1199) (by decide +kernel) rfl
theorem wd_1200 : Cond.code yX9_begins cX9_begins 2 none ∈ x_tbl := x_tb (i := 1200) (by decide +kernel) rfl
theorem wd_1201 : Cond.methodLink "BabyRoundModel" 306 yX9_plainly ∈ x_tbl := x_tb (i := 1201) (by decide +kernel) rfl
theorem wd_1203 : Cond.instanceMethod yX9_plainly ∈ x_tbl := x_tb (i := 1203) (by decide +kernel) rfl
theorem wd_1204 : Cond.code yX9_plainly cX9_plainly 1 none ∈ x_tbl := x_tb (i := 1204) (by decide +kernel) rfl
theorem wd_1205 : Cond.methodLink "BabyRoundModel" 163 yX9_keepsRow ∈ x_tbl := x_tb (i := 1205) (by decide +kernel) rfl
theorem wd_1207 : Cond.instanceMethod yX9_keepsRow ∈ x_tbl := x_tb (i := 1207) (by decide +kernel) rfl
theorem wd_1208 : Cond.code yX9_keepsRow cX9_keepsRow 2 none ∈ x_tbl := x_tb (i := 1208) (by decide +kernel) rfl
theorem wd_1209 : Cond.fieldLink "BabyRoundModel" 13 "BabyRoundModel" "tape" "[B" ∈ x_tbl := x_tb (i := 1209) (by decide +kernel) rfl
theorem wd_1210 : Cond.fieldLink "BabyRoundModel" 166 "BabyRoundModel" "taped" "I" ∈ x_tbl := x_tb (i := 1210) (by decide +kernel) rfl
theorem wd_1211 : Cond.fieldLink "BabyRoundModel" 17 "BabyRoundModel" "text" "[B" ∈ x_tbl := x_tb (i := 1211) (by decide +kernel) rfl
theorem wd_1212 : Cond.fieldLink "BabyRoundModel" 172 "BabyRoundModel" "size" "I" ∈ x_tbl := x_tb (i := 1212) (by decide +kernel) rfl
theorem wd_1213 : Cond.fieldLink "BabyRoundModel" 20 "BabyRoundModel" "tKind" "[I" ∈ x_tbl := x_tb (i := 1213) (by decide +kernel) rfl
theorem wd_1214 : Cond.fieldLink "BabyRoundModel" 24 "BabyRoundModel" "tPlace" "[I" ∈ x_tbl := x_tb (i := 1214) (by decide +kernel) rfl
theorem wd_1215 : Cond.fieldLink "BabyRoundModel" 27 "BabyRoundModel" "tValue" "[I" ∈ x_tbl := x_tb (i := 1215) (by decide +kernel) rfl
theorem wd_1216 : Cond.fieldLink "BabyRoundModel" 30 "BabyRoundModel" "tName" "[J" ∈ x_tbl := x_tb (i := 1216) (by decide +kernel) rfl
theorem wd_1217 : Cond.fieldLink "BabyRoundModel" 34 "BabyRoundModel" "keys" "[J" ∈ x_tbl := x_tb (i := 1217) (by decide +kernel) rfl
theorem wd_1218 : Cond.fieldLink "BabyRoundModel" 181 "BabyRoundModel" "tokens" "I" ∈ x_tbl := x_tb (i := 1218) (by decide +kernel) rfl
theorem wd_1219 : Cond.fieldLink "BabyRoundModel" 206 "BabyRoundModel" "t" "I" ∈ x_tbl := x_tb (i := 1219) (by decide +kernel) rfl
theorem wd_1220 : Cond.fieldLink "BabyRoundModel" 230 "BabyRoundModel" "open" "I" ∈ x_tbl := x_tb (i := 1220) (by decide +kernel) rfl
theorem wd_1221 : Cond.fieldLink "BabyRoundModel" 203 "BabyRoundModel" "fault" "I" ∈ x_tbl := x_tb (i := 1221) (by decide +kernel) rfl
theorem wd_1222 : Cond.fieldLink "BabyRoundModel" 209 "BabyRoundModel" "faultPlace" "I" ∈ x_tbl := x_tb (i := 1222) (by decide +kernel) rfl
theorem wd_1223 : Cond.fieldLink "BabyRoundModel" 212 "BabyRoundModel" "worst" "I" ∈ x_tbl := x_tb (i := 1223) (by decide +kernel) rfl
theorem wd_1224 : Cond.fieldLink "BabyRoundModel" 215 "BabyRoundModel" "worstPlace" "I" ∈ x_tbl := x_tb (i := 1224) (by decide +kernel) rfl
theorem wd_1225 : Cond.fieldLink "BabyRoundModel" 37 "BabyRoundModel" "place" "I" ∈ x_tbl := x_tb (i := 1225) (by decide +kernel) rfl
theorem wd_1226 : Cond.fieldLink "BabyRoundModel" 233 "BabyRoundModel" "live" "I" ∈ x_tbl := x_tb (i := 1226) (by decide +kernel) rfl
theorem wd_1227 : Cond.fieldLink "BabyRoundModel" 236 "BabyRoundModel" "side" "I" ∈ x_tbl := x_tb (i := 1227) (by decide +kernel) rfl
theorem wd_1228 : Cond.fieldLink "BabyRoundModel" 239 "BabyRoundModel" "names" "I" ∈ x_tbl := x_tb (i := 1228) (by decide +kernel) rfl
theorem wd_1229 : Cond.fieldLink "BabyRoundModel" 40 "BabyRoundModel" "nameOf" "[J" ∈ x_tbl := x_tb (i := 1229) (by decide +kernel) rfl
theorem wd_1230 : Cond.fieldLink "BabyRoundModel" 43 "BabyRoundModel" "babyTold" "[I" ∈ x_tbl := x_tb (i := 1230) (by decide +kernel) rfl
theorem wd_1231 : Cond.fieldLink "BabyRoundModel" 46 "BabyRoundModel" "aunts" "[I" ∈ x_tbl := x_tb (i := 1231) (by decide +kernel) rfl
theorem wd_1232 : Cond.fieldLink "BabyRoundModel" 49 "BabyRoundModel" "rockOf" "[I" ∈ x_tbl := x_tb (i := 1232) (by decide +kernel) rfl
theorem wd_1233 : Cond.fieldLink "BabyRoundModel" 52 "BabyRoundModel" "showOf" "[I" ∈ x_tbl := x_tb (i := 1233) (by decide +kernel) rfl
theorem wd_1234 : Cond.fieldLink "BabyRoundModel" 55 "BabyRoundModel" "beardOf" "[I" ∈ x_tbl := x_tb (i := 1234) (by decide +kernel) rfl
theorem wd_1235 : Cond.fieldLink "BabyRoundModel" 58 "BabyRoundModel" "silkOf" "[I" ∈ x_tbl := x_tb (i := 1235) (by decide +kernel) rfl
theorem wd_1236 : Cond.fieldLink "BabyRoundModel" 61 "BabyRoundModel" "sitsOf" "[Z" ∈ x_tbl := x_tb (i := 1236) (by decide +kernel) rfl
theorem wd_1237 : Cond.fieldLink "BabyRoundModel" 65 "BabyRoundModel" "fresh" "[I" ∈ x_tbl := x_tb (i := 1237) (by decide +kernel) rfl
theorem wd_1238 : Cond.fieldLink "BabyRoundModel" 68 "BabyRoundModel" "feeds" "[I" ∈ x_tbl := x_tb (i := 1238) (by decide +kernel) rfl
theorem wd_1239 : Cond.fieldLink "BabyRoundModel" 71 "BabyRoundModel" "seed" "[I" ∈ x_tbl := x_tb (i := 1239) (by decide +kernel) rfl
theorem wd_1240 : Cond.fieldLink "BabyRoundModel" 74 "BabyRoundModel" "lawFirst" "[I" ∈ x_tbl := x_tb (i := 1240) (by decide +kernel) rfl
theorem wd_1241 : Cond.fieldLink "BabyRoundModel" 77 "BabyRoundModel" "lawLast" "[I" ∈ x_tbl := x_tb (i := 1241) (by decide +kernel) rfl
theorem wd_1242 : Cond.fieldLink "BabyRoundModel" 242 "BabyRoundModel" "branches" "I" ∈ x_tbl := x_tb (i := 1242) (by decide +kernel) rfl
theorem wd_1243 : Cond.fieldLink "BabyRoundModel" 80 "BabyRoundModel" "hasTest" "[Z" ∈ x_tbl := x_tb (i := 1243) (by decide +kernel) rfl
theorem wd_1244 : Cond.fieldLink "BabyRoundModel" 83 "BabyRoundModel" "testFrom" "[I" ∈ x_tbl := x_tb (i := 1244) (by decide +kernel) rfl
theorem wd_1245 : Cond.fieldLink "BabyRoundModel" 86 "BabyRoundModel" "testMid" "[I" ∈ x_tbl := x_tb (i := 1245) (by decide +kernel) rfl
theorem wd_1246 : Cond.fieldLink "BabyRoundModel" 89 "BabyRoundModel" "testTo" "[I" ∈ x_tbl := x_tb (i := 1246) (by decide +kernel) rfl
theorem wd_1247 : Cond.fieldLink "BabyRoundModel" 92 "BabyRoundModel" "termTo" "[I" ∈ x_tbl := x_tb (i := 1247) (by decide +kernel) rfl
theorem wd_1248 : Cond.fieldLink "BabyRoundModel" 245 "BabyRoundModel" "codes" "I" ∈ x_tbl := x_tb (i := 1248) (by decide +kernel) rfl
theorem wd_1249 : Cond.fieldLink "BabyRoundModel" 95 "BabyRoundModel" "code" "[I" ∈ x_tbl := x_tb (i := 1249) (by decide +kernel) rfl
theorem wd_1250 : Cond.fieldLink "BabyRoundModel" 98 "BabyRoundModel" "codeInt" "[I" ∈ x_tbl := x_tb (i := 1250) (by decide +kernel) rfl
theorem wd_1251 : Cond.fieldLink "BabyRoundModel" 101 "BabyRoundModel" "waits" "[I" ∈ x_tbl := x_tb (i := 1251) (by decide +kernel) rfl
theorem wd_1252 : Cond.fieldLink "BabyRoundModel" 280 "BabyRoundModel" "waiting" "I" ∈ x_tbl := x_tb (i := 1252) (by decide +kernel) rfl
theorem wd_1253 : Cond.fieldLink "BabyRoundModel" 104 "BabyRoundModel" "variables" "[I" ∈ x_tbl := x_tb (i := 1253) (by decide +kernel) rfl
theorem wd_1254 : Cond.fieldLink "BabyRoundModel" 107 "BabyRoundModel" "pile" "[I" ∈ x_tbl := x_tb (i := 1254) (by decide +kernel) rfl
theorem wd_1255 : Cond.fieldLink "BabyRoundModel" 293 "BabyRoundModel" "isBroken" "Z" ∈ x_tbl := x_tb (i := 1255) (by decide +kernel) rfl
theorem wd_1256 : Cond.fieldLink "BabyRoundModel" 110 "BabyRoundModel" "now0" "[I" ∈ x_tbl := x_tb (i := 1256) (by decide +kernel) rfl
theorem wd_1257 : Cond.fieldLink "BabyRoundModel" 113 "BabyRoundModel" "row" "[I" ∈ x_tbl := x_tb (i := 1257) (by decide +kernel) rfl
theorem wd_1258 : Cond.fieldLink "BabyRoundModel" 297 "BabyRoundModel" "lots" "I" ∈ x_tbl := x_tb (i := 1258) (by decide +kernel) rfl
theorem wd_1259 : Cond.fieldLink "BabyRoundModel" 300 "BabyRoundModel" "rockWho" "I" ∈ x_tbl := x_tb (i := 1259) (by decide +kernel) rfl
theorem wd_1260 : Cond.fieldLink "BabyRoundModel" 303 "BabyRoundModel" "rockBy" "I" ∈ x_tbl := x_tb (i := 1260) (by decide +kernel) rfl
theorem wd_1261 : Cond.fieldLink "BabyRoundModel" 116 "BabyRoundModel" "change" "[I" ∈ x_tbl := x_tb (i := 1261) (by decide +kernel) rfl
theorem wd_1262 : Cond.fieldLink "BabyRoundModel" 251 "BabyRoundModel" "undos" "I" ∈ x_tbl := x_tb (i := 1262) (by decide +kernel) rfl
theorem wd_1263 : Cond.fieldLink "BabyRoundModel" 119 "BabyRoundModel" "history" "[I" ∈ x_tbl := x_tb (i := 1263) (by decide +kernel) rfl
theorem wd_1264 : Cond.fieldLink "BabyRoundModel" 378 "BabyRoundModel" "cryAll" "I" ∈ x_tbl := x_tb (i := 1264) (by decide +kernel) rfl
theorem wd_1265 : Cond.fieldLink "BabyRoundModel" 375 "BabyRoundModel" "sleeper" "I" ∈ x_tbl := x_tb (i := 1265) (by decide +kernel) rfl
theorem wd_1266 : Cond.fieldLink "BabyRoundModel" 122 "BabyRoundModel" "cryWith" "[I" ∈ x_tbl := x_tb (i := 1266) (by decide +kernel) rfl
theorem wd_1267 : Cond.fieldLink "BabyRoundModel" 125 "BabyRoundModel" "laughsWith" "[I" ∈ x_tbl := x_tb (i := 1267) (by decide +kernel) rfl
theorem wd_1268 : Cond.fieldLink "BabyRoundModel" 128 "BabyRoundModel" "perm" "[I" ∈ x_tbl := x_tb (i := 1268) (by decide +kernel) rfl
theorem wd_1269 : Cond.fieldLink "BabyRoundModel" 390 "BabyRoundModel" "leastCry" "I" ∈ x_tbl := x_tb (i := 1269) (by decide +kernel) rfl
theorem wd_1270 : Cond.fieldLink "BabyRoundModel" 131 "BabyRoundModel" "leastOrder" "[I" ∈ x_tbl := x_tb (i := 1270) (by decide +kernel) rfl
theorem wd_1271 : Cond.fieldLink "BabyRoundModel" 396 "BabyRoundModel" "sitting" "I" ∈ x_tbl := x_tb (i := 1271) (by decide +kernel) rfl
theorem wd_1272 : Cond.fieldLink "BabyRoundModel" 134 "BabyRoundModel" "lucky" "[I" ∈ x_tbl := x_tb (i := 1272) (by decide +kernel) rfl
theorem wd_1273 : Cond.fieldLink "BabyRoundModel" 393 "BabyRoundModel" "leastApart" "I" ∈ x_tbl := x_tb (i := 1273) (by decide +kernel) rfl
theorem wd_1274 : Cond.fieldLink "BabyRoundModel" 408 "BabyRoundModel" "fairFirst" "I" ∈ x_tbl := x_tb (i := 1274) (by decide +kernel) rfl
theorem wd_1275 : Cond.fieldLink "BabyRoundModel" 137 "BabyRoundModel" "laughsBy" "[I" ∈ x_tbl := x_tb (i := 1275) (by decide +kernel) rfl
theorem wd_1276 : Cond.fieldLink "BabyRoundModel" 254 "BabyRoundModel" "told" "I" ∈ x_tbl := x_tb (i := 1276) (by decide +kernel) rfl
theorem wd_1277 : Cond.fieldLink "BabyRoundModel" 140 "BabyRoundModel" "toldMinute" "[I" ∈ x_tbl := x_tb (i := 1277) (by decide +kernel) rfl
theorem wd_1278 : Cond.fieldLink "BabyRoundModel" 143 "BabyRoundModel" "toldCry" "[I" ∈ x_tbl := x_tb (i := 1278) (by decide +kernel) rfl
theorem wd_1279 : Cond.fieldLink "BabyRoundModel" 146 "BabyRoundModel" "isHeld" "[Z" ∈ x_tbl := x_tb (i := 1279) (by decide +kernel) rfl
theorem wd_1280 : Cond.fieldLink "BabyRoundModel" 149 "BabyRoundModel" "held0" "[I" ∈ x_tbl := x_tb (i := 1280) (by decide +kernel) rfl
theorem wd_1433 : Cond.methodLink "BabyRoundModel" 169 yX9_put ∈ x_tbl := x_tb (i := 1433) (by decide +kernel) rfl
theorem wd_1435 : Cond.instanceMethod yX9_put ∈ x_tbl := x_tb (i := 1435) (by decide +kernel) rfl
theorem wd_1436 : Cond.code yX9_put cX9_put 3 none ∈ x_tbl := x_tb (i := 1436) (by decide +kernel) rfl
theorem wd_1445 : Cond.methodLink "BabyRoundModel" 227 yX9_cut ∈ x_tbl := x_tb (i := 1445) (by decide +kernel) rfl
theorem wd_1447 : Cond.instanceMethod yX9_cut ∈ x_tbl := x_tb (i := 1447) (by decide +kernel) rfl
theorem wd_1448 : Cond.code yX9_cut cX9_cut 8 none ∈ x_tbl := x_tb (i := 1448) (by decide +kernel) rfl
theorem wd_1449 : Cond.methodLink "BabyRoundModel" 184 yX9_byteAt ∈ x_tbl := x_tb (i := 1449) (by decide +kernel) rfl
theorem wd_1451 : Cond.instanceMethod yX9_byteAt ∈ x_tbl := x_tb (i := 1451) (by decide +kernel) rfl
theorem wd_1452 : Cond.code yX9_byteAt cX9_byteAt 2 (some .int) ∈ x_tbl := x_tb (i := 1452) (by decide +kernel) rfl
theorem wd_1453 : Cond.methodLink "BabyRoundModel" 188 yX9_token ∈ x_tbl := x_tb (i := 1453) (by decide +kernel) rfl
theorem wd_1455 : Cond.instanceMethod yX9_token ∈ x_tbl := x_tb (i := 1455) (by decide +kernel) rfl
theorem wd_1456 : Cond.code yX9_token cX9_token 6 none ∈ x_tbl := x_tb (i := 1456) (by decide +kernel) rfl
theorem wd_1457 : Cond.methodLink "BabyRoundModel" 192 yX9_isLetter ∈ x_tbl := x_tb (i := 1457) (by decide +kernel) rfl
theorem wd_1458 : Cond.static yX9_isLetter ∈ x_tbl := x_tb (i := 1458) (by decide +kernel) rfl
theorem wd_1459 : Cond.code yX9_isLetter cX9_isLetter 1 (some .boolean) ∈ x_tbl := x_tb (i := 1459) (by decide +kernel) rfl
theorem wd_1460 : Cond.methodLink "BabyRoundModel" 196 yX9_isDigit ∈ x_tbl := x_tb (i := 1460) (by decide +kernel) rfl
theorem wd_1461 : Cond.static yX9_isDigit ∈ x_tbl := x_tb (i := 1461) (by decide +kernel) rfl
theorem wd_1462 : Cond.code yX9_isDigit cX9_isDigit 1 (some .boolean) ∈ x_tbl := x_tb (i := 1462) (by decide +kernel) rfl
theorem wd_1463 : Cond.methodLink "BabyRoundModel" 199 yX9_sign ∈ x_tbl := x_tb (i := 1463) (by decide +kernel) rfl
theorem wd_1465 : Cond.instanceMethod yX9_sign ∈ x_tbl := x_tb (i := 1465) (by decide +kernel) rfl
theorem wd_1466 : Cond.code yX9_sign cX9_sign 5 (some .int) ∈ x_tbl := x_tb (i := 1466) (by decide +kernel) rfl
theorem wd_1467 : Cond.methodLink "BabyRoundModel" 221 yX9_is ∈ x_tbl := x_tb (i := 1467) (by decide +kernel) rfl
theorem wd_1469 : Cond.instanceMethod yX9_is ∈ x_tbl := x_tb (i := 1469) (by decide +kernel) rfl
theorem wd_1470 : Cond.code yX9_is cX9_is 2 (some .boolean) ∈ x_tbl := x_tb (i := 1470) (by decide +kernel) rfl
theorem wd_1471 : Cond.methodLink "BabyRoundModel" 248 yX9_tellOne ∈ x_tbl := x_tb (i := 1471) (by decide +kernel) rfl
theorem wd_1473 : Cond.instanceMethod yX9_tellOne ∈ x_tbl := x_tb (i := 1473) (by decide +kernel) rfl
theorem wd_1474 : Cond.code yX9_tellOne cX9_tellOne 2 none ∈ x_tbl := x_tb (i := 1474) (by decide +kernel) rfl
theorem wd_1475 : Cond.methodLink "BabyRoundModel" 224 yX9_goesOn ∈ x_tbl := x_tb (i := 1475) (by decide +kernel) rfl
theorem wd_1477 : Cond.instanceMethod yX9_goesOn ∈ x_tbl := x_tb (i := 1477) (by decide +kernel) rfl
theorem wd_1478 : Cond.code yX9_goesOn cX9_goesOn 1 none ∈ x_tbl := x_tb (i := 1478) (by decide +kernel) rfl
theorem wd_1479 : Cond.methodLink "BabyRoundModel" 218 yX9_fail ∈ x_tbl := x_tb (i := 1479) (by decide +kernel) rfl
theorem wd_1481 : Cond.instanceMethod yX9_fail ∈ x_tbl := x_tb (i := 1481) (by decide +kernel) rfl
theorem wd_1482 : Cond.code yX9_fail cX9_fail 2 none ∈ x_tbl := x_tb (i := 1482) (by decide +kernel) rfl
theorem wd_1483 : Cond.methodLink "BabyRoundModel" 257 yX9_bounded ∈ x_tbl := x_tb (i := 1483) (by decide +kernel) rfl
theorem wd_1485 : Cond.instanceMethod yX9_bounded ∈ x_tbl := x_tb (i := 1485) (by decide +kernel) rfl
theorem wd_1486 : Cond.code yX9_bounded cX9_bounded 4 (some .int) ∈ x_tbl := x_tb (i := 1486) (by decide +kernel) rfl
theorem wd_1487 : Cond.methodLink "BabyRoundModel" 270 yX9_wrong ∈ x_tbl := x_tb (i := 1487) (by decide +kernel) rfl
theorem wd_1489 : Cond.instanceMethod yX9_wrong ∈ x_tbl := x_tb (i := 1489) (by decide +kernel) rfl
theorem wd_1490 : Cond.code yX9_wrong cX9_wrong 4 none ∈ x_tbl := x_tb (i := 1490) (by decide +kernel) rfl
theorem wd_1491 : Cond.methodLink "BabyRoundModel" 261 yX9_must ∈ x_tbl := x_tb (i := 1491) (by decide +kernel) rfl
theorem wd_1493 : Cond.instanceMethod yX9_must ∈ x_tbl := x_tb (i := 1493) (by decide +kernel) rfl
theorem wd_1494 : Cond.code yX9_must cX9_must 2 none ∈ x_tbl := x_tb (i := 1494) (by decide +kernel) rfl
theorem wd_1495 : Cond.methodLink "BabyRoundModel" 264 yX9_tellAunt ∈ x_tbl := x_tb (i := 1495) (by decide +kernel) rfl
theorem wd_1497 : Cond.instanceMethod yX9_tellAunt ∈ x_tbl := x_tb (i := 1497) (by decide +kernel) rfl
theorem wd_1498 : Cond.code yX9_tellAunt cX9_tellAunt 4 none ∈ x_tbl := x_tb (i := 1498) (by decide +kernel) rfl
theorem wd_1499 : Cond.methodLink "BabyRoundModel" 267 yX9_tellLaw ∈ x_tbl := x_tb (i := 1499) (by decide +kernel) rfl
theorem wd_1501 : Cond.instanceMethod yX9_tellLaw ∈ x_tbl := x_tb (i := 1501) (by decide +kernel) rfl
theorem wd_1502 : Cond.code yX9_tellLaw cX9_tellLaw 4 none ∈ x_tbl := x_tb (i := 1502) (by decide +kernel) rfl
theorem wd_1503 : Cond.methodLink "BabyRoundModel" 274 yX9_expression ∈ x_tbl := x_tb (i := 1503) (by decide +kernel) rfl
theorem wd_1505 : Cond.instanceMethod yX9_expression ∈ x_tbl := x_tb (i := 1505) (by decide +kernel) rfl
theorem wd_1506 : Cond.code yX9_expression cX9_expression 3 none ∈ x_tbl := x_tb (i := 1506) (by decide +kernel) rfl
theorem wd_1507 : Cond.methodLink "BabyRoundModel" 286 yX9_unit ∈ x_tbl := x_tb (i := 1507) (by decide +kernel) rfl
theorem wd_1509 : Cond.instanceMethod yX9_unit ∈ x_tbl := x_tb (i := 1509) (by decide +kernel) rfl
theorem wd_1510 : Cond.code yX9_unit cX9_unit 1 none ∈ x_tbl := x_tb (i := 1510) (by decide +kernel) rfl
theorem wd_1511 : Cond.methodLink "BabyRoundModel" 283 yX9_emit ∈ x_tbl := x_tb (i := 1511) (by decide +kernel) rfl
theorem wd_1513 : Cond.instanceMethod yX9_emit ∈ x_tbl := x_tb (i := 1513) (by decide +kernel) rfl
theorem wd_1514 : Cond.code yX9_emit cX9_emit 3 none ∈ x_tbl := x_tb (i := 1514) (by decide +kernel) rfl
theorem wd_1515 : Cond.methodLink "BabyRoundModel" 289 yX9_comesOut ∈ x_tbl := x_tb (i := 1515) (by decide +kernel) rfl
theorem wd_1517 : Cond.instanceMethod yX9_comesOut ∈ x_tbl := x_tb (i := 1517) (by decide +kernel) rfl
theorem wd_1518 : Cond.code yX9_comesOut cX9_comesOut 3 none ∈ x_tbl := x_tb (i := 1518) (by decide +kernel) rfl
theorem wd_1519 : Cond.methodLink "BabyRoundModel" 277 yX9_term ∈ x_tbl := x_tb (i := 1519) (by decide +kernel) rfl
theorem wd_1521 : Cond.instanceMethod yX9_term ∈ x_tbl := x_tb (i := 1521) (by decide +kernel) rfl
theorem wd_1522 : Cond.code yX9_term cX9_term 1 none ∈ x_tbl := x_tb (i := 1522) (by decide +kernel) rfl
theorem wd_1531 : Cond.methodLink "BabyRoundModel" 342 yX9_in ∈ x_tbl := x_tb (i := 1531) (by decide +kernel) rfl
theorem wd_1532 : Cond.static yX9_in ∈ x_tbl := x_tb (i := 1532) (by decide +kernel) rfl
theorem wd_1533 : Cond.code yX9_in cX9_in 3 (some .boolean) ∈ x_tbl := x_tb (i := 1533) (by decide +kernel) rfl
theorem wd_1538 : Cond.methodLink "BabyRoundModel" 349 yX9_isAunt ∈ x_tbl := x_tb (i := 1538) (by decide +kernel) rfl
theorem wd_1540 : Cond.instanceMethod yX9_isAunt ∈ x_tbl := x_tb (i := 1540) (by decide +kernel) rfl
theorem wd_1541 : Cond.code yX9_isAunt cX9_isAunt 2 (some .boolean) ∈ x_tbl := x_tb (i := 1541) (by decide +kernel) rfl
theorem wd_1546 : Cond.methodLink "BabyRoundModel" 352 yX9_copies ∈ x_tbl := x_tb (i := 1546) (by decide +kernel) rfl
theorem wd_1548 : Cond.instanceMethod yX9_copies ∈ x_tbl := x_tb (i := 1548) (by decide +kernel) rfl
theorem wd_1549 : Cond.code yX9_copies cX9_copies 2 none ∈ x_tbl := x_tb (i := 1549) (by decide +kernel) rfl
theorem wd_1550 : Cond.methodLink "BabyRoundModel" 323 yX9_lawNow ∈ x_tbl := x_tb (i := 1550) (by decide +kernel) rfl
theorem wd_1552 : Cond.instanceMethod yX9_lawNow ∈ x_tbl := x_tb (i := 1552) (by decide +kernel) rfl
theorem wd_1553 : Cond.code yX9_lawNow cX9_lawNow 2 (some .int) ∈ x_tbl := x_tb (i := 1553) (by decide +kernel) rfl
theorem wd_1554 : Cond.methodLink "BabyRoundModel" 319 yX9_tells ∈ x_tbl := x_tb (i := 1554) (by decide +kernel) rfl
theorem wd_1556 : Cond.instanceMethod yX9_tells ∈ x_tbl := x_tb (i := 1556) (by decide +kernel) rfl
theorem wd_1557 : Cond.code yX9_tells cX9_tells 10 (some .int) ∈ x_tbl := x_tb (i := 1557) (by decide +kernel) rfl
theorem wd_1558 : Cond.methodLink "BabyRoundModel" 313 yX9_termOf ∈ x_tbl := x_tb (i := 1558) (by decide +kernel) rfl
theorem wd_1560 : Cond.instanceMethod yX9_termOf ∈ x_tbl := x_tb (i := 1560) (by decide +kernel) rfl
theorem wd_1561 : Cond.code yX9_termOf cX9_termOf 8 (some .int) ∈ x_tbl := x_tb (i := 1561) (by decide +kernel) rfl
theorem wd_1562 : Cond.methodLink "BabyRoundModel" 316 yX9_held ∈ x_tbl := x_tb (i := 1562) (by decide +kernel) rfl
theorem wd_1563 : Cond.static yX9_held ∈ x_tbl := x_tb (i := 1563) (by decide +kernel) rfl
theorem wd_1564 : Cond.code yX9_held cX9_held 3 (some .int) ∈ x_tbl := x_tb (i := 1564) (by decide +kernel) rfl
theorem wd_1569 : Cond.methodLink "BabyRoundModel" 346 yX9_goes ∈ x_tbl := x_tb (i := 1569) (by decide +kernel) rfl
theorem wd_1571 : Cond.instanceMethod yX9_goes ∈ x_tbl := x_tb (i := 1571) (by decide +kernel) rfl
theorem wd_1572 : Cond.code yX9_goes cX9_goes 3 none ∈ x_tbl := x_tb (i := 1572) (by decide +kernel) rfl
theorem wd_1573 : Cond.methodLink "BabyRoundModel" 339 yX9_minuteGoes ∈ x_tbl := x_tb (i := 1573) (by decide +kernel) rfl
theorem wd_1575 : Cond.instanceMethod yX9_minuteGoes ∈ x_tbl := x_tb (i := 1575) (by decide +kernel) rfl
theorem wd_1576 : Cond.code yX9_minuteGoes cX9_minuteGoes 1 none ∈ x_tbl := x_tb (i := 1576) (by decide +kernel) rfl
theorem wd_1577 : Cond.methodLink "BabyRoundModel" 333 yX9_sleepMinute ∈ x_tbl := x_tb (i := 1577) (by decide +kernel) rfl
theorem wd_1579 : Cond.instanceMethod yX9_sleepMinute ∈ x_tbl := x_tb (i := 1579) (by decide +kernel) rfl
theorem wd_1580 : Cond.code yX9_sleepMinute cX9_sleepMinute 1 none ∈ x_tbl := x_tb (i := 1580) (by decide +kernel) rfl
theorem wd_1581 : Cond.methodLink "BabyRoundModel" 336 yX9_wakeMinute ∈ x_tbl := x_tb (i := 1581) (by decide +kernel) rfl
theorem wd_1583 : Cond.instanceMethod yX9_wakeMinute ∈ x_tbl := x_tb (i := 1583) (by decide +kernel) rfl
theorem wd_1584 : Cond.code yX9_wakeMinute cX9_wakeMinute 3 none ∈ x_tbl := x_tb (i := 1584) (by decide +kernel) rfl
theorem wd_1585 : Cond.methodLink "BabyRoundModel" 326 yX9_lotNow ∈ x_tbl := x_tb (i := 1585) (by decide +kernel) rfl
theorem wd_1587 : Cond.instanceMethod yX9_lotNow ∈ x_tbl := x_tb (i := 1587) (by decide +kernel) rfl
theorem wd_1588 : Cond.code yX9_lotNow cX9_lotNow 1 (some .int) ∈ x_tbl := x_tb (i := 1588) (by decide +kernel) rfl
theorem wd_1589 : Cond.methodLink "BabyRoundModel" 310 yX9_mixed ∈ x_tbl := x_tb (i := 1589) (by decide +kernel) rfl
theorem wd_1590 : Cond.static yX9_mixed ∈ x_tbl := x_tb (i := 1590) (by decide +kernel) rfl
theorem wd_1591 : Cond.code yX9_mixed cX9_mixed 3 (some .int) ∈ x_tbl := x_tb (i := 1591) (by decide +kernel) rfl
theorem wd_1592 : Cond.constant "BabyRoundModel" 309 (1103515245) ∈ x_tbl := x_tb (i := 1592) (by decide +kernel) rfl
theorem wd_1593 : Cond.methodLink "BabyRoundModel" 330 yX9_fallsAsleep ∈ x_tbl := x_tb (i := 1593) (by decide +kernel) rfl
theorem wd_1595 : Cond.instanceMethod yX9_fallsAsleep ∈ x_tbl := x_tb (i := 1595) (by decide +kernel) rfl
theorem wd_1596 : Cond.code yX9_fallsAsleep cX9_fallsAsleep 1 none ∈ x_tbl := x_tb (i := 1596) (by decide +kernel) rfl
theorem wd_1597 : Cond.methodLink "BabyRoundModel" 355 yX9_keeps ∈ x_tbl := x_tb (i := 1597) (by decide +kernel) rfl
theorem wd_1599 : Cond.instanceMethod yX9_keeps ∈ x_tbl := x_tb (i := 1599) (by decide +kernel) rfl
theorem wd_1600 : Cond.code yX9_keeps cX9_keeps 2 none ∈ x_tbl := x_tb (i := 1600) (by decide +kernel) rfl
theorem wd_1605 : Cond.methodLink "BabyRoundModel" 358 yX9_isAwake ∈ x_tbl := x_tb (i := 1605) (by decide +kernel) rfl
theorem wd_1607 : Cond.instanceMethod yX9_isAwake ∈ x_tbl := x_tb (i := 1607) (by decide +kernel) rfl
theorem wd_1608 : Cond.code yX9_isAwake cX9_isAwake 1 (some .boolean) ∈ x_tbl := x_tb (i := 1608) (by decide +kernel) rfl
theorem wd_1609 : Cond.methodLink "BabyRoundModel" 362 yX9_hands ∈ x_tbl := x_tb (i := 1609) (by decide +kernel) rfl
theorem wd_1611 : Cond.instanceMethod yX9_hands ∈ x_tbl := x_tb (i := 1611) (by decide +kernel) rfl
theorem wd_1612 : Cond.code yX9_hands cX9_hands 2 none ∈ x_tbl := x_tb (i := 1612) (by decide +kernel) rfl
theorem wd_1617 : Cond.methodLink "BabyRoundModel" 365 yX9_feedsNow ∈ x_tbl := x_tb (i := 1617) (by decide +kernel) rfl
theorem wd_1619 : Cond.instanceMethod yX9_feedsNow ∈ x_tbl := x_tb (i := 1619) (by decide +kernel) rfl
theorem wd_1620 : Cond.code yX9_feedsNow cX9_feedsNow 1 none ∈ x_tbl := x_tb (i := 1620) (by decide +kernel) rfl
theorem wd_1629 : Cond.methodLink "BabyRoundModel" 368 yX9_turns ∈ x_tbl := x_tb (i := 1629) (by decide +kernel) rfl
theorem wd_1631 : Cond.instanceMethod yX9_turns ∈ x_tbl := x_tb (i := 1631) (by decide +kernel) rfl
theorem wd_1632 : Cond.code yX9_turns cX9_turns 4 (some .boolean) ∈ x_tbl := x_tb (i := 1632) (by decide +kernel) rfl
theorem wd_1645 : Cond.methodLink "BabyRoundModel" 372 yX9_cries ∈ x_tbl := x_tb (i := 1645) (by decide +kernel) rfl
theorem wd_1647 : Cond.instanceMethod yX9_cries ∈ x_tbl := x_tb (i := 1647) (by decide +kernel) rfl
theorem wd_1648 : Cond.code yX9_cries cX9_cries 3 (some .int) ∈ x_tbl := x_tb (i := 1648) (by decide +kernel) rfl
theorem wd_1657 : Cond.methodLink "BabyRoundModel" 414 yX9_isShort ∈ x_tbl := x_tb (i := 1657) (by decide +kernel) rfl
theorem wd_1658 : Cond.static yX9_isShort ∈ x_tbl := x_tb (i := 1658) (by decide +kernel) rfl
theorem wd_1659 : Cond.code yX9_isShort cX9_isShort 1 (some .boolean) ∈ x_tbl := x_tb (i := 1659) (by decide +kernel) rfl
theorem wd_1660 : Cond.methodLink "BabyRoundModel" 417 yX9_fillsOrders ∈ x_tbl := x_tb (i := 1660) (by decide +kernel) rfl
theorem wd_1662 : Cond.instanceMethod yX9_fillsOrders ∈ x_tbl := x_tb (i := 1662) (by decide +kernel) rfl
theorem wd_1663 : Cond.code yX9_fillsOrders cX9_fillsOrders 4 none ∈ x_tbl := x_tb (i := 1663) (by decide +kernel) rfl
theorem wd_1664 : Cond.methodLink "BabyRoundModel" 387 yX9_firstOrder ∈ x_tbl := x_tb (i := 1664) (by decide +kernel) rfl
theorem wd_1666 : Cond.instanceMethod yX9_firstOrder ∈ x_tbl := x_tb (i := 1666) (by decide +kernel) rfl
theorem wd_1667 : Cond.code yX9_firstOrder cX9_firstOrder 2 none ∈ x_tbl := x_tb (i := 1667) (by decide +kernel) rfl
theorem wd_1668 : Cond.methodLink "BabyRoundModel" 399 yX9_givesAll ∈ x_tbl := x_tb (i := 1668) (by decide +kernel) rfl
theorem wd_1670 : Cond.instanceMethod yX9_givesAll ∈ x_tbl := x_tb (i := 1670) (by decide +kernel) rfl
theorem wd_1671 : Cond.code yX9_givesAll cX9_givesAll 3 none ∈ x_tbl := x_tb (i := 1671) (by decide +kernel) rfl
theorem wd_1672 : Cond.methodLink "BabyRoundModel" 381 yX9_starts ∈ x_tbl := x_tb (i := 1672) (by decide +kernel) rfl
theorem wd_1674 : Cond.instanceMethod yX9_starts ∈ x_tbl := x_tb (i := 1674) (by decide +kernel) rfl
theorem wd_1675 : Cond.code yX9_starts cX9_starts 1 none ∈ x_tbl := x_tb (i := 1675) (by decide +kernel) rfl
theorem wd_1676 : Cond.methodLink "BabyRoundModel" 384 yX9_gives ∈ x_tbl := x_tb (i := 1676) (by decide +kernel) rfl
theorem wd_1678 : Cond.instanceMethod yX9_gives ∈ x_tbl := x_tb (i := 1678) (by decide +kernel) rfl
theorem wd_1679 : Cond.code yX9_gives cX9_gives 6 none ∈ x_tbl := x_tb (i := 1679) (by decide +kernel) rfl
theorem wd_1680 : Cond.methodLink "BabyRoundModel" 402 yX9_luckiest ∈ x_tbl := x_tb (i := 1680) (by decide +kernel) rfl
theorem wd_1682 : Cond.instanceMethod yX9_luckiest ∈ x_tbl := x_tb (i := 1682) (by decide +kernel) rfl
theorem wd_1683 : Cond.code yX9_luckiest cX9_luckiest 3 (some .int) ∈ x_tbl := x_tb (i := 1683) (by decide +kernel) rfl
theorem wd_1684 : Cond.methodLink "BabyRoundModel" 405 yX9_apartNow ∈ x_tbl := x_tb (i := 1684) (by decide +kernel) rfl
theorem wd_1686 : Cond.instanceMethod yX9_apartNow ∈ x_tbl := x_tb (i := 1686) (by decide +kernel) rfl
theorem wd_1687 : Cond.code yX9_apartNow cX9_apartNow 4 (some .int) ∈ x_tbl := x_tb (i := 1687) (by decide +kernel) rfl
theorem wd_1688 : Cond.methodLink "BabyRoundModel" 411 yX9_nextOrder ∈ x_tbl := x_tb (i := 1688) (by decide +kernel) rfl
theorem wd_1690 : Cond.instanceMethod yX9_nextOrder ∈ x_tbl := x_tb (i := 1690) (by decide +kernel) rfl
theorem wd_1691 : Cond.code yX9_nextOrder cX9_nextOrder 7 (some .boolean) ∈ x_tbl := x_tb (i := 1691) (by decide +kernel) rfl
theorem wd_1716 : Cond.methodLink "BabyRoundModel" 420 yX9_cryIf ∈ x_tbl := x_tb (i := 1716) (by decide +kernel) rfl
theorem wd_1718 : Cond.instanceMethod yX9_cryIf ∈ x_tbl := x_tb (i := 1718) (by decide +kernel) rfl
theorem wd_1719 : Cond.code yX9_cryIf cX9_cryIf 3 (some .int) ∈ x_tbl := x_tb (i := 1719) (by decide +kernel) rfl
theorem wd_1724 : Cond.constant "BabyRoundModel" 423 (-100000) ∈ x_tbl := x_tb (i := 1724) (by decide +kernel) rfl
theorem wd_1725 : Cond.methodLink "BabyRoundModel" 424 yX9_cryInSight ∈ x_tbl := x_tb (i := 1725) (by decide +kernel) rfl
theorem wd_1727 : Cond.instanceMethod yX9_cryInSight ∈ x_tbl := x_tb (i := 1727) (by decide +kernel) rfl
theorem wd_1728 : Cond.code yX9_cryInSight cX9_cryInSight 4 (some .int) ∈ x_tbl := x_tb (i := 1728) (by decide +kernel) rfl
theorem wd_1741 : Cond.methodLink "BabyRoundModel" 430 yX9_rounds ∈ x_tbl := x_tb (i := 1741) (by decide +kernel) rfl
theorem wd_1743 : Cond.instanceMethod yX9_rounds ∈ x_tbl := x_tb (i := 1743) (by decide +kernel) rfl
theorem wd_1744 : Cond.code yX9_rounds cX9_rounds 6 none ∈ x_tbl := x_tb (i := 1744) (by decide +kernel) rfl
theorem wd_1745 : Cond.methodLink "BabyRoundModel" 427 yX9_fewestOther ∈ x_tbl := x_tb (i := 1745) (by decide +kernel) rfl
theorem wd_1747 : Cond.instanceMethod yX9_fewestOther ∈ x_tbl := x_tb (i := 1747) (by decide +kernel) rfl
theorem wd_1748 : Cond.code yX9_fewestOther cX9_fewestOther 3 (some .int) ∈ x_tbl := x_tb (i := 1748) (by decide +kernel) rfl
theorem wd_1773 : Cond.methodLink "BabyRoundModel" 434 yX9_fillsRests ∈ x_tbl := x_tb (i := 1773) (by decide +kernel) rfl
theorem wd_1775 : Cond.instanceMethod yX9_fillsRests ∈ x_tbl := x_tb (i := 1775) (by decide +kernel) rfl
theorem wd_1776 : Cond.code yX9_fillsRests cX9_fillsRests 6 none ∈ x_tbl := x_tb (i := 1776) (by decide +kernel) rfl
theorem wd_1777 : Cond.methodLink "BabyRoundModel" 437 yX9_isResting ∈ x_tbl := x_tb (i := 1777) (by decide +kernel) rfl
theorem wd_1779 : Cond.instanceMethod yX9_isResting ∈ x_tbl := x_tb (i := 1779) (by decide +kernel) rfl
theorem wd_1780 : Cond.code yX9_isResting cX9_isResting 3 (some .boolean) ∈ x_tbl := x_tb (i := 1780) (by decide +kernel) rfl
theorem wd_1789 : Cond.methodLink "BabyRoundModel" 440 yX9_common ∈ x_tbl := x_tb (i := 1789) (by decide +kernel) rfl
theorem wd_1790 : Cond.static yX9_common ∈ x_tbl := x_tb (i := 1790) (by decide +kernel) rfl
theorem wd_1791 : Cond.code yX9_common cX9_common 5 (some .int) ∈ x_tbl := x_tb (i := 1791) (by decide +kernel) rfl
theorem wd_1804 : Cond.methodLink "BabyRoundModel" 443 yX9_isSo ∈ x_tbl := x_tb (i := 1804) (by decide +kernel) rfl
theorem wd_1806 : Cond.instanceMethod yX9_isSo ∈ x_tbl := x_tb (i := 1806) (by decide +kernel) rfl
theorem wd_1807 : Cond.code yX9_isSo cX9_isSo 6 (some .boolean) ∈ x_tbl := x_tb (i := 1807) (by decide +kernel) rfl
theorem nw_521 : lw_tbl[521]? = some (Cond.methodLinkNest "BabyRound$Laws" 44 yX8_put "BabyRound") := by decide +kernel
theorem nw_540 : lw_tbl[540]? = some (Cond.methodLinkNest "BabyRound$Day" 90 yX8_at "BabyRound") := by decide +kernel
theorem nw_648 : lw_tbl[648]? = some (Cond.methodLinkNest "BabyRound$Reader" 128 yX8_put "BabyRound") := by decide +kernel
theorem nw_718 : lw_tbl[718]? = some (Cond.methodLinkNest "BabyRound$Reader" 132 yX8_at "BabyRound") := by decide +kernel
theorem nw_759 : lw_tbl[759]? = some (Cond.methodLinkNest "BabyRound$Told" 70 yX8_at "BabyRound") := by decide +kernel
theorem nw_760 : lw_tbl[760]? = some (Cond.methodLinkNest "BabyRound$Told" 74 yX8_put "BabyRound") := by decide +kernel
theorem nw_796 : lw_tbl[796]? = some (Cond.methodLinkNest "BabyRound$Laws" 48 yX8_at "BabyRound") := by decide +kernel
theorem nw_805 : lw_tbl[805]? = some (Cond.methodLinkNest "BabyRound$Told" 78 yX8_copy "BabyRound") := by decide +kernel
theorem nw_812 : lw_tbl[812]? = some (Cond.methodLinkNest "BabyRound$Laws" 52 yX8_copy "BabyRound") := by decide +kernel
theorem nw_843 : lw_tbl[843]? = some (Cond.methodLinkNest "BabyRound$State" 80 yX8_at "BabyRound") := by decide +kernel
theorem nw_868 : lw_tbl[868]? = some (Cond.methodLinkNest "BabyRound$Laws" 70 yX8_within "BabyRound") := by decide +kernel
theorem nw_889 : lw_tbl[889]? = some (Cond.methodLinkNest "BabyRound$State" 76 yX8_copy "BabyRound") := by decide +kernel
theorem nw_904 : lw_tbl[904]? = some (Cond.methodLinkNest "BabyRound$Day" 123 yX8_within "BabyRound") := by decide +kernel
theorem nw_1014 : lw_tbl[1014]? = some (Cond.methodLinkNest "BabyRound$Orders" 89 yX8_put "BabyRound") := by decide +kernel
theorem nw_1016 : lw_tbl[1016]? = some (Cond.methodLinkNest "BabyRound$Orders" 81 yX8_at "BabyRound") := by decide +kernel
theorem nw_1034 : lw_tbl[1034]? = some (Cond.methodLinkNest "BabyRound$Orders" 134 yX8_copy "BabyRound") := by decide +kernel
