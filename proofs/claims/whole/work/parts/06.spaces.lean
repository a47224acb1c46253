/-! THE SPACES: the cells of the class's object and all that it holds (38), of the reference (13). -/
abbrev CSp : Type := Launch × va_G × ClassId × ClassId × (Nat → Nat) × (Nat → Nat)
abbrev aC (Z : CSp) : Nat → Nat := Z.2.2.2.2.1
abbrev tC (Z : CSp) : Nat → Nat := Z.2.2.2.2.2
abbrev cI (Z : CSp) : ClassId := Z.2.2.1
abbrev cR (Z : CSp) : ClassId := Z.2.2.2.1
/-- which cell is the state of a number -/
def sc (x : Int32) : Nat := 10 + 4 * x.toNatClampNeg
def fLeast (j : Nat) : Int32 := ([0, 0, 1, 100, 1, 0] : List Int32).getD j 0
def fMost (j : Nat) : Int32 := ([50, 2000, 4095, 9999, 500, 500] : List Int32).getD j 0
def fBx (j : Nat) : Int32 := ([0, 1, 0, -1] : List Int32).getD j 0
def fBy (j : Nat) : Int32 := ([-1, 0, 1, 0] : List Int32).getD j 0
def csC (Z : CSp) (w : Wd) : va_W := [
  (aC Z 0, .inr (3, [.ref (aC Z 1), .ref (aC Z 10), .ref (aC Z 14), .ref (aC Z 9), .int (w.1 0 4), .ref (aC Z 6), .int (w.1 0 6), .int (w.1 0 7), .int (w.1 0 8)])),
  (aC Z 1, .inr (1, [.ref (aC Z 10), .ref (aC Z 2), .ref (aC Z 3), .ref (aC Z 4), .ref (aC Z 5), .int (w.1 1 5), .int (w.1 1 6), .int (w.1 1 7)])),
  (aC Z 2, .inl (cI Z, 32, .inl (w.1 2))),
  (aC Z 3, .inl (cI Z, 32, .inl (w.1 3))),
  (aC Z 4, .inl (cI Z, 32, .inl (w.1 4))),
  (aC Z 5, .inl (cI Z, 3, .inl (w.1 5))),
  (aC Z 6, .inr (0, [.ref (aC Z 7), .int (w.1 6 1), .ref (aC Z 8), .int (w.1 6 3), .int (w.1 6 4), .int (w.1 6 5), .int (w.1 6 6), .int (w.1 6 7)])),
  (aC Z 7, .inl (cI Z, 150, .inl (w.1 7))),
  (aC Z 8, .inl (cI Z, 150, .inl (w.1 8))),
  (aC Z 9, .inl (cR Z, 5, .inr (.inr (.inr (.inr (fun j => some (aC Z (sc (w.1 9 j))))))))),
  (aC Z 10, .inr (2, [.int (w.1 10 0), .int (w.1 10 1), .ref (aC Z 11), .ref (aC Z 12), .ref (aC Z 13)])),
  (aC Z 11, .inl (cI Z, 3, .inl (w.1 11))),
  (aC Z 12, .inl (cI Z, 6, .inl (w.1 12))),
  (aC Z 13, .inl (cI Z, 384, .inl (w.1 13))),
  (aC Z 14, .inr (2, [.int (w.1 14 0), .int (w.1 14 1), .ref (aC Z 15), .ref (aC Z 16), .ref (aC Z 17)])),
  (aC Z 15, .inl (cI Z, 3, .inl (w.1 15))),
  (aC Z 16, .inl (cI Z, 6, .inl (w.1 16))),
  (aC Z 17, .inl (cI Z, 384, .inl (w.1 17))),
  (aC Z 18, .inr (2, [.int (w.1 18 0), .int (w.1 18 1), .ref (aC Z 19), .ref (aC Z 20), .ref (aC Z 21)])),
  (aC Z 19, .inl (cI Z, 3, .inl (w.1 19))),
  (aC Z 20, .inl (cI Z, 6, .inl (w.1 20))),
  (aC Z 21, .inl (cI Z, 384, .inl (w.1 21))),
  (aC Z 22, .inr (2, [.int (w.1 22 0), .int (w.1 22 1), .ref (aC Z 23), .ref (aC Z 24), .ref (aC Z 25)])),
  (aC Z 23, .inl (cI Z, 3, .inl (w.1 23))),
  (aC Z 24, .inl (cI Z, 6, .inl (w.1 24))),
  (aC Z 25, .inl (cI Z, 384, .inl (w.1 25))),
  (aC Z 26, .inr (2, [.int (w.1 26 0), .int (w.1 26 1), .ref (aC Z 27), .ref (aC Z 28), .ref (aC Z 29)])),
  (aC Z 27, .inl (cI Z, 3, .inl (w.1 27))),
  (aC Z 28, .inl (cI Z, 6, .inl (w.1 28))),
  (aC Z 29, .inl (cI Z, 384, .inl (w.1 29))),
  (aC Z 30, .inr (2, [.int (w.1 30 0), .int (w.1 30 1), .ref (aC Z 31), .ref (aC Z 32), .ref (aC Z 33)])),
  (aC Z 31, .inl (cI Z, 3, .inl (w.1 31))),
  (aC Z 32, .inl (cI Z, 6, .inl (w.1 32))),
  (aC Z 33, .inl (cI Z, 384, .inl (w.1 33))),
  (aC Z 34, .inr (2, [.int (w.1 34 0), .int (w.1 34 1), .ref (aC Z 35), .ref (aC Z 36), .ref (aC Z 37)])),
  (aC Z 35, .inl (cI Z, 3, .inl (w.1 35))),
  (aC Z 36, .inl (cI Z, 6, .inl (w.1 36))),
  (aC Z 37, .inl (cI Z, 384, .inl (w.1 37)))]
def rgC (Z : CSp) (q : Nat) : Prop := ∃ k : Nat, k < 38 ∧ q = aC Z k
def csM (Z : CSp) (w : Wd) : va_W := [
  (aC Z 0, .inr (4, [.ref (aC Z 1), .ref (aC Z 2), .ref (aC Z 3), .int (w.1 0 3), .ref (aC Z 4), .ref (aC Z 5), .int (w.1 0 6), .int (w.1 0 7), .int (w.1 0 8), .int (w.1 0 9), .int (w.1 0 10), .ref (aC Z 6), .int (w.1 0 12), .int (w.1 0 13), .ref (aC Z 7), .ref (aC Z 8), .ref (aC Z 9), .ref (aC Z 10), .float (w.1 0 18).toUInt32, .float (w.1 0 19).toUInt32, .int (w.1 0 20), .ref (aC Z 11), .ref (aC Z 12), .int (w.1 0 23), .int (w.1 0 24), .int (w.1 0 25), .long w.2])),
  (aC Z 1, .inl (cI Z, 395, .inl (w.1 1))),
  (aC Z 2, .inl (cI Z, 395, .inl (w.1 2))),
  (aC Z 3, .inl (cI Z, 1975, .inl (w.1 3))),
  (aC Z 4, .inl (cI Z, 3, .inl (w.1 4))),
  (aC Z 5, .inl (cI Z, 150, .inl (w.1 5))),
  (aC Z 6, .inl (cI Z, 3, .inl (w.1 6))),
  (aC Z 7, .inl (cI Z, 16, .inl (w.1 7))),
  (aC Z 8, .inl (cI Z, 16, .inl (w.1 8))),
  (aC Z 9, .inl (cI Z, 16, .inl (w.1 9))),
  (aC Z 10, .inl (cI Z, 16, .inl (w.1 10))),
  (aC Z 11, .inl (cI Z, 75, .inl (w.1 11))),
  (aC Z 12, .inl (cI Z, 375, .inl (w.1 12)))]
def rgM (Z : CSp) (q : Nat) : Prop := ∃ k : Nat, k < 13 ∧ q = aC Z k
def stC (Z : CSp) (U : State) : Prop := StA "LEAST_SETTINGS" (tC Z 0) 6 fLeast (rgC Z) U ∧ StA "MOST_SETTINGS" (tC Z 1) 6 fMost (rgC Z) U ∧ StA "BESIDE_X" (tC Z 2) 4 fBx (rgC Z) U ∧ StA "BESIDE_Y" (tC Z 3) 4 fBy (rgC Z) U ∧ va_Nw (.methodLinkNest RX4 40 yX5_within RX5) U ∧ va_Nw (.methodLinkNest RX2 37 yX5_within RX5) U ∧ va_Nw (.methodLinkNest RX1 38 yX5_within RX5) U ∧ va_Nw (.fieldLinkNest RX4 50 RX5 "LEAST_SETTINGS" "[I" RX5) U ∧ va_Nw (.fieldLinkNest RX4 53 RX5 "MOST_SETTINGS" "[I" RX5) U ∧ va_Nw (.fieldLinkNest RX2 122 RX5 "BESIDE_X" "[I" RX5) U ∧ va_Nw (.fieldLinkNest RX2 125 RX5 "BESIDE_Y" "[I" RX5) U
abbrev EC (Z : CSp) : Sp := (Z.1, Z.2.1, [(cI Z, .int), (cR Z, .object RX4)], rgC Z, csC Z, stC Z)
abbrev EM (Z : CSp) : Sp := (Z.1, Z.2.1, [(cI Z, .int), (cR Z, .object RX4)], rgM Z, csM Z, fun _ => True)
theorem StA.go {nm : String} {t N : Nat} {f : Nat → Int32} {A : Nat → Prop} {s U : State} {H : Heap} {locs : List Loc} (h : StA nm t N f A s) (hS : va_S A s.heap H locs) (hU : U.heap = H) (hW : s.WarmedH U.vm) : StA nm t N f A U := by
  obtain ⟨h1, h2⟩ := h
  refine ⟨?_, ?_⟩
  · rw [hU]
    exact (h1.moved hW.alike).kept hS.2.1
  · rw [hU]
    exact (h2.moved hW.alike).kept hS.2.1
theorem StA.call {nm : String} {t N : Nat} {f : Nat → Int32} {A : Nat → Prop} {U : State} (h : StA nm t N f A U) (g : JFrame) (mk : MethodId) (a : Array Value) : StA nm t N f A (U.calling g mk a) := ⟨h.1.moved (u := U) (U := U.calling g mk a) (Vm.Alike.refl U.vm), h.2.moved (u := U) (U := U.calling g mk a) (Vm.Alike.refl U.vm)⟩
theorem EC_ok (Z : CSp) : EOk (EC Z) := by
  refine ⟨?_, ?_⟩
  · intro s U H locs h hS hU hW
    obtain ⟨h1, h2, h3, h4, h5, h6, h7, h8, h9, h10, h11⟩ := h
    exact ⟨h1.go hS hU hW, h2.go hS hU hW, h3.go hS hU hW, h4.go hS hU hW, h5.warmM hW, h6.warmM hW, h7.warmM hW, h8.warmF hW, h9.warmF hW, h10.warmF hW, h11.warmF hW⟩
  · intro U g mk a h
    obtain ⟨h1, h2, h3, h4, h5, h6, h7, h8, h9, h10, h11⟩ := h
    exact ⟨h1.call g mk a, h2.call g mk a, h3.call g mk a, h4.call g mk a, h5.same (U := U.calling g mk a) rfl rfl, h6.same (U := U.calling g mk a) rfl rfl, h7.same (U := U.calling g mk a) rfl rfl, h8.same (U := U.calling g mk a) rfl rfl, h9.same (U := U.calling g mk a) rfl rfl, h10.same (U := U.calling g mk a) rfl rfl, h11.same (U := U.calling g mk a) rfl rfl⟩
theorem EM_ok (Z : CSp) : EOk (EM Z) := ⟨fun _ _ _ _ _ _ _ _ => trivial, fun _ _ _ _ _ => trivial⟩
theorem s_least (Z : CSp) (s : State) (h : eS (EC Z) s) : StA "LEAST_SETTINGS" (tC Z 0) 6 fLeast (eA (EC Z)) s := h.1
theorem s_most (Z : CSp) (s : State) (h : eS (EC Z) s) : StA "MOST_SETTINGS" (tC Z 1) 6 fMost (eA (EC Z)) s := h.2.1
theorem s_bx (Z : CSp) (s : State) (h : eS (EC Z) s) : StA "BESIDE_X" (tC Z 2) 4 fBx (eA (EC Z)) s := h.2.2.1
theorem s_by (Z : CSp) (s : State) (h : eS (EC Z) s) : StA "BESIDE_Y" (tC Z 3) 4 fBy (eA (EC Z)) s := h.2.2.2.1
theorem n_X4_40 (Z : CSp) (s : State) (h : eS (EC Z) s) : va_Nw (.methodLinkNest RX4 40 yX5_within RX5) s := h.2.2.2.2.1
theorem n_X2_37 (Z : CSp) (s : State) (h : eS (EC Z) s) : va_Nw (.methodLinkNest RX2 37 yX5_within RX5) s := h.2.2.2.2.2.1
theorem n_X1_38 (Z : CSp) (s : State) (h : eS (EC Z) s) : va_Nw (.methodLinkNest RX1 38 yX5_within RX5) s := h.2.2.2.2.2.2.1
theorem n_X4_50 (Z : CSp) (s : State) (h : eS (EC Z) s) : va_Nw (.fieldLinkNest RX4 50 RX5 "LEAST_SETTINGS" "[I" RX5) s := h.2.2.2.2.2.2.2.1
theorem n_X4_53 (Z : CSp) (s : State) (h : eS (EC Z) s) : va_Nw (.fieldLinkNest RX4 53 RX5 "MOST_SETTINGS" "[I" RX5) s := h.2.2.2.2.2.2.2.2.1
theorem n_X2_122 (Z : CSp) (s : State) (h : eS (EC Z) s) : va_Nw (.fieldLinkNest RX2 122 RX5 "BESIDE_X" "[I" RX5) s := h.2.2.2.2.2.2.2.2.2.1
theorem n_X2_125 (Z : CSp) (s : State) (h : eS (EC Z) s) : va_Nw (.fieldLinkNest RX2 125 RX5 "BESIDE_Y" "[I" RX5) s := h.2.2.2.2.2.2.2.2.2.2
theorem qC_0 (Z : CSp) (w : Wd) : (eC (EC Z) w)[0]? = some (aC Z 0, .inr (3, [.ref (aC Z 1), .ref (aC Z 10), .ref (aC Z 14), .ref (aC Z 9), .int (w.1 0 4), .ref (aC Z 6), .int (w.1 0 6), .int (w.1 0 7), .int (w.1 0 8)])) := rfl
theorem qC_1 (Z : CSp) (w : Wd) : (eC (EC Z) w)[1]? = some (aC Z 1, .inr (1, [.ref (aC Z 10), .ref (aC Z 2), .ref (aC Z 3), .ref (aC Z 4), .ref (aC Z 5), .int (w.1 1 5), .int (w.1 1 6), .int (w.1 1 7)])) := rfl
theorem qC_2 (Z : CSp) (w : Wd) : (eC (EC Z) w)[2]? = some (aC Z 2, .inl (cI Z, 32, .inl (w.1 2))) := rfl
theorem qC_3 (Z : CSp) (w : Wd) : (eC (EC Z) w)[3]? = some (aC Z 3, .inl (cI Z, 32, .inl (w.1 3))) := rfl
theorem qC_4 (Z : CSp) (w : Wd) : (eC (EC Z) w)[4]? = some (aC Z 4, .inl (cI Z, 32, .inl (w.1 4))) := rfl
theorem qC_5 (Z : CSp) (w : Wd) : (eC (EC Z) w)[5]? = some (aC Z 5, .inl (cI Z, 3, .inl (w.1 5))) := rfl
theorem qC_6 (Z : CSp) (w : Wd) : (eC (EC Z) w)[6]? = some (aC Z 6, .inr (0, [.ref (aC Z 7), .int (w.1 6 1), .ref (aC Z 8), .int (w.1 6 3), .int (w.1 6 4), .int (w.1 6 5), .int (w.1 6 6), .int (w.1 6 7)])) := rfl
theorem qC_7 (Z : CSp) (w : Wd) : (eC (EC Z) w)[7]? = some (aC Z 7, .inl (cI Z, 150, .inl (w.1 7))) := rfl
theorem qC_8 (Z : CSp) (w : Wd) : (eC (EC Z) w)[8]? = some (aC Z 8, .inl (cI Z, 150, .inl (w.1 8))) := rfl
theorem qC_9 (Z : CSp) (w : Wd) : (eC (EC Z) w)[9]? = some (aC Z 9, .inl (cR Z, 5, .inr (.inr (.inr (.inr (fun j => some (aC Z (sc (w.1 9 j))))))))) := rfl
theorem qC_10 (Z : CSp) (w : Wd) : (eC (EC Z) w)[10]? = some (aC Z 10, .inr (2, [.int (w.1 10 0), .int (w.1 10 1), .ref (aC Z 11), .ref (aC Z 12), .ref (aC Z 13)])) := rfl
theorem qC_11 (Z : CSp) (w : Wd) : (eC (EC Z) w)[11]? = some (aC Z 11, .inl (cI Z, 3, .inl (w.1 11))) := rfl
theorem qC_12 (Z : CSp) (w : Wd) : (eC (EC Z) w)[12]? = some (aC Z 12, .inl (cI Z, 6, .inl (w.1 12))) := rfl
theorem qC_13 (Z : CSp) (w : Wd) : (eC (EC Z) w)[13]? = some (aC Z 13, .inl (cI Z, 384, .inl (w.1 13))) := rfl
theorem qC_14 (Z : CSp) (w : Wd) : (eC (EC Z) w)[14]? = some (aC Z 14, .inr (2, [.int (w.1 14 0), .int (w.1 14 1), .ref (aC Z 15), .ref (aC Z 16), .ref (aC Z 17)])) := rfl
theorem qC_15 (Z : CSp) (w : Wd) : (eC (EC Z) w)[15]? = some (aC Z 15, .inl (cI Z, 3, .inl (w.1 15))) := rfl
theorem qC_16 (Z : CSp) (w : Wd) : (eC (EC Z) w)[16]? = some (aC Z 16, .inl (cI Z, 6, .inl (w.1 16))) := rfl
theorem qC_17 (Z : CSp) (w : Wd) : (eC (EC Z) w)[17]? = some (aC Z 17, .inl (cI Z, 384, .inl (w.1 17))) := rfl
theorem qC_18 (Z : CSp) (w : Wd) : (eC (EC Z) w)[18]? = some (aC Z 18, .inr (2, [.int (w.1 18 0), .int (w.1 18 1), .ref (aC Z 19), .ref (aC Z 20), .ref (aC Z 21)])) := rfl
theorem qC_19 (Z : CSp) (w : Wd) : (eC (EC Z) w)[19]? = some (aC Z 19, .inl (cI Z, 3, .inl (w.1 19))) := rfl
theorem qC_20 (Z : CSp) (w : Wd) : (eC (EC Z) w)[20]? = some (aC Z 20, .inl (cI Z, 6, .inl (w.1 20))) := rfl
theorem qC_21 (Z : CSp) (w : Wd) : (eC (EC Z) w)[21]? = some (aC Z 21, .inl (cI Z, 384, .inl (w.1 21))) := rfl
theorem qC_22 (Z : CSp) (w : Wd) : (eC (EC Z) w)[22]? = some (aC Z 22, .inr (2, [.int (w.1 22 0), .int (w.1 22 1), .ref (aC Z 23), .ref (aC Z 24), .ref (aC Z 25)])) := rfl
theorem qC_23 (Z : CSp) (w : Wd) : (eC (EC Z) w)[23]? = some (aC Z 23, .inl (cI Z, 3, .inl (w.1 23))) := rfl
theorem qC_24 (Z : CSp) (w : Wd) : (eC (EC Z) w)[24]? = some (aC Z 24, .inl (cI Z, 6, .inl (w.1 24))) := rfl
theorem qC_25 (Z : CSp) (w : Wd) : (eC (EC Z) w)[25]? = some (aC Z 25, .inl (cI Z, 384, .inl (w.1 25))) := rfl
theorem qC_26 (Z : CSp) (w : Wd) : (eC (EC Z) w)[26]? = some (aC Z 26, .inr (2, [.int (w.1 26 0), .int (w.1 26 1), .ref (aC Z 27), .ref (aC Z 28), .ref (aC Z 29)])) := rfl
theorem qC_27 (Z : CSp) (w : Wd) : (eC (EC Z) w)[27]? = some (aC Z 27, .inl (cI Z, 3, .inl (w.1 27))) := rfl
theorem qC_28 (Z : CSp) (w : Wd) : (eC (EC Z) w)[28]? = some (aC Z 28, .inl (cI Z, 6, .inl (w.1 28))) := rfl
theorem qC_29 (Z : CSp) (w : Wd) : (eC (EC Z) w)[29]? = some (aC Z 29, .inl (cI Z, 384, .inl (w.1 29))) := rfl
theorem qC_30 (Z : CSp) (w : Wd) : (eC (EC Z) w)[30]? = some (aC Z 30, .inr (2, [.int (w.1 30 0), .int (w.1 30 1), .ref (aC Z 31), .ref (aC Z 32), .ref (aC Z 33)])) := rfl
theorem qC_31 (Z : CSp) (w : Wd) : (eC (EC Z) w)[31]? = some (aC Z 31, .inl (cI Z, 3, .inl (w.1 31))) := rfl
theorem qC_32 (Z : CSp) (w : Wd) : (eC (EC Z) w)[32]? = some (aC Z 32, .inl (cI Z, 6, .inl (w.1 32))) := rfl
theorem qC_33 (Z : CSp) (w : Wd) : (eC (EC Z) w)[33]? = some (aC Z 33, .inl (cI Z, 384, .inl (w.1 33))) := rfl
theorem qC_34 (Z : CSp) (w : Wd) : (eC (EC Z) w)[34]? = some (aC Z 34, .inr (2, [.int (w.1 34 0), .int (w.1 34 1), .ref (aC Z 35), .ref (aC Z 36), .ref (aC Z 37)])) := rfl
theorem qC_35 (Z : CSp) (w : Wd) : (eC (EC Z) w)[35]? = some (aC Z 35, .inl (cI Z, 3, .inl (w.1 35))) := rfl
theorem qC_36 (Z : CSp) (w : Wd) : (eC (EC Z) w)[36]? = some (aC Z 36, .inl (cI Z, 6, .inl (w.1 36))) := rfl
theorem qC_37 (Z : CSp) (w : Wd) : (eC (EC Z) w)[37]? = some (aC Z 37, .inl (cI Z, 384, .inl (w.1 37))) := rfl
theorem uC_0_4 (Z : CSp) (w : Wd) (x : Int32) : (eC (EC Z) w).set 0 (aC Z 0, .inr (3, [.ref (aC Z 1), .ref (aC Z 10), .ref (aC Z 14), .ref (aC Z 9), .int (w.1 0 4), .ref (aC Z 6), .int (w.1 0 6), .int (w.1 0 7), .int (w.1 0 8)].set 4 (.int x))) = eC (EC Z) (wset w 0 4 x) := rfl
theorem uC_0_6 (Z : CSp) (w : Wd) (x : Int32) : (eC (EC Z) w).set 0 (aC Z 0, .inr (3, [.ref (aC Z 1), .ref (aC Z 10), .ref (aC Z 14), .ref (aC Z 9), .int (w.1 0 4), .ref (aC Z 6), .int (w.1 0 6), .int (w.1 0 7), .int (w.1 0 8)].set 6 (.int x))) = eC (EC Z) (wset w 0 6 x) := rfl
theorem uC_0_7 (Z : CSp) (w : Wd) (x : Int32) : (eC (EC Z) w).set 0 (aC Z 0, .inr (3, [.ref (aC Z 1), .ref (aC Z 10), .ref (aC Z 14), .ref (aC Z 9), .int (w.1 0 4), .ref (aC Z 6), .int (w.1 0 6), .int (w.1 0 7), .int (w.1 0 8)].set 7 (.int x))) = eC (EC Z) (wset w 0 7 x) := rfl
theorem uC_0_8 (Z : CSp) (w : Wd) (x : Int32) : (eC (EC Z) w).set 0 (aC Z 0, .inr (3, [.ref (aC Z 1), .ref (aC Z 10), .ref (aC Z 14), .ref (aC Z 9), .int (w.1 0 4), .ref (aC Z 6), .int (w.1 0 6), .int (w.1 0 7), .int (w.1 0 8)].set 8 (.int x))) = eC (EC Z) (wset w 0 8 x) := rfl
theorem uC_1_5 (Z : CSp) (w : Wd) (x : Int32) : (eC (EC Z) w).set 1 (aC Z 1, .inr (1, [.ref (aC Z 10), .ref (aC Z 2), .ref (aC Z 3), .ref (aC Z 4), .ref (aC Z 5), .int (w.1 1 5), .int (w.1 1 6), .int (w.1 1 7)].set 5 (.int x))) = eC (EC Z) (wset w 1 5 x) := rfl
theorem uC_1_6 (Z : CSp) (w : Wd) (x : Int32) : (eC (EC Z) w).set 1 (aC Z 1, .inr (1, [.ref (aC Z 10), .ref (aC Z 2), .ref (aC Z 3), .ref (aC Z 4), .ref (aC Z 5), .int (w.1 1 5), .int (w.1 1 6), .int (w.1 1 7)].set 6 (.int x))) = eC (EC Z) (wset w 1 6 x) := rfl
theorem uC_1_7 (Z : CSp) (w : Wd) (x : Int32) : (eC (EC Z) w).set 1 (aC Z 1, .inr (1, [.ref (aC Z 10), .ref (aC Z 2), .ref (aC Z 3), .ref (aC Z 4), .ref (aC Z 5), .int (w.1 1 5), .int (w.1 1 6), .int (w.1 1 7)].set 7 (.int x))) = eC (EC Z) (wset w 1 7 x) := rfl
theorem uC_2 (Z : CSp) (w : Wd) (x : Int32) (j : Nat) : (eC (EC Z) w).set 2 (aC Z 2, .inl (cI Z, 32, .inl (upd (w.1 2) j x))) = eC (EC Z) (wset w 2 j x) := rfl
theorem vC_2 (Z : CSp) (w : Wd) (h : Nat → Int32) : (eC (EC Z) w).set 2 (aC Z 2, .inl (cI Z, 32, .inl h)) = eC (EC Z) (wfun w 2 h) := rfl
theorem uC_3 (Z : CSp) (w : Wd) (x : Int32) (j : Nat) : (eC (EC Z) w).set 3 (aC Z 3, .inl (cI Z, 32, .inl (upd (w.1 3) j x))) = eC (EC Z) (wset w 3 j x) := rfl
theorem vC_3 (Z : CSp) (w : Wd) (h : Nat → Int32) : (eC (EC Z) w).set 3 (aC Z 3, .inl (cI Z, 32, .inl h)) = eC (EC Z) (wfun w 3 h) := rfl
theorem uC_4 (Z : CSp) (w : Wd) (x : Int32) (j : Nat) : (eC (EC Z) w).set 4 (aC Z 4, .inl (cI Z, 32, .inl (upd (w.1 4) j x))) = eC (EC Z) (wset w 4 j x) := rfl
theorem vC_4 (Z : CSp) (w : Wd) (h : Nat → Int32) : (eC (EC Z) w).set 4 (aC Z 4, .inl (cI Z, 32, .inl h)) = eC (EC Z) (wfun w 4 h) := rfl
theorem uC_5 (Z : CSp) (w : Wd) (x : Int32) (j : Nat) : (eC (EC Z) w).set 5 (aC Z 5, .inl (cI Z, 3, .inl (upd (w.1 5) j x))) = eC (EC Z) (wset w 5 j x) := rfl
theorem vC_5 (Z : CSp) (w : Wd) (h : Nat → Int32) : (eC (EC Z) w).set 5 (aC Z 5, .inl (cI Z, 3, .inl h)) = eC (EC Z) (wfun w 5 h) := rfl
theorem uC_6_1 (Z : CSp) (w : Wd) (x : Int32) : (eC (EC Z) w).set 6 (aC Z 6, .inr (0, [.ref (aC Z 7), .int (w.1 6 1), .ref (aC Z 8), .int (w.1 6 3), .int (w.1 6 4), .int (w.1 6 5), .int (w.1 6 6), .int (w.1 6 7)].set 1 (.int x))) = eC (EC Z) (wset w 6 1 x) := rfl
theorem uC_6_3 (Z : CSp) (w : Wd) (x : Int32) : (eC (EC Z) w).set 6 (aC Z 6, .inr (0, [.ref (aC Z 7), .int (w.1 6 1), .ref (aC Z 8), .int (w.1 6 3), .int (w.1 6 4), .int (w.1 6 5), .int (w.1 6 6), .int (w.1 6 7)].set 3 (.int x))) = eC (EC Z) (wset w 6 3 x) := rfl
theorem uC_6_4 (Z : CSp) (w : Wd) (x : Int32) : (eC (EC Z) w).set 6 (aC Z 6, .inr (0, [.ref (aC Z 7), .int (w.1 6 1), .ref (aC Z 8), .int (w.1 6 3), .int (w.1 6 4), .int (w.1 6 5), .int (w.1 6 6), .int (w.1 6 7)].set 4 (.int x))) = eC (EC Z) (wset w 6 4 x) := rfl
theorem uC_6_5 (Z : CSp) (w : Wd) (x : Int32) : (eC (EC Z) w).set 6 (aC Z 6, .inr (0, [.ref (aC Z 7), .int (w.1 6 1), .ref (aC Z 8), .int (w.1 6 3), .int (w.1 6 4), .int (w.1 6 5), .int (w.1 6 6), .int (w.1 6 7)].set 5 (.int x))) = eC (EC Z) (wset w 6 5 x) := rfl
theorem uC_6_6 (Z : CSp) (w : Wd) (x : Int32) : (eC (EC Z) w).set 6 (aC Z 6, .inr (0, [.ref (aC Z 7), .int (w.1 6 1), .ref (aC Z 8), .int (w.1 6 3), .int (w.1 6 4), .int (w.1 6 5), .int (w.1 6 6), .int (w.1 6 7)].set 6 (.int x))) = eC (EC Z) (wset w 6 6 x) := rfl
theorem uC_6_7 (Z : CSp) (w : Wd) (x : Int32) : (eC (EC Z) w).set 6 (aC Z 6, .inr (0, [.ref (aC Z 7), .int (w.1 6 1), .ref (aC Z 8), .int (w.1 6 3), .int (w.1 6 4), .int (w.1 6 5), .int (w.1 6 6), .int (w.1 6 7)].set 7 (.int x))) = eC (EC Z) (wset w 6 7 x) := rfl
theorem uC_7 (Z : CSp) (w : Wd) (x : Int32) (j : Nat) : (eC (EC Z) w).set 7 (aC Z 7, .inl (cI Z, 150, .inl (upd (w.1 7) j x))) = eC (EC Z) (wset w 7 j x) := rfl
theorem vC_7 (Z : CSp) (w : Wd) (h : Nat → Int32) : (eC (EC Z) w).set 7 (aC Z 7, .inl (cI Z, 150, .inl h)) = eC (EC Z) (wfun w 7 h) := rfl
theorem uC_8 (Z : CSp) (w : Wd) (x : Int32) (j : Nat) : (eC (EC Z) w).set 8 (aC Z 8, .inl (cI Z, 150, .inl (upd (w.1 8) j x))) = eC (EC Z) (wset w 8 j x) := rfl
theorem vC_8 (Z : CSp) (w : Wd) (h : Nat → Int32) : (eC (EC Z) w).set 8 (aC Z 8, .inl (cI Z, 150, .inl h)) = eC (EC Z) (wfun w 8 h) := rfl
theorem uC_10_0 (Z : CSp) (w : Wd) (x : Int32) : (eC (EC Z) w).set 10 (aC Z 10, .inr (2, [.int (w.1 10 0), .int (w.1 10 1), .ref (aC Z 11), .ref (aC Z 12), .ref (aC Z 13)].set 0 (.int x))) = eC (EC Z) (wset w 10 0 x) := rfl
theorem uC_10_1 (Z : CSp) (w : Wd) (x : Int32) : (eC (EC Z) w).set 10 (aC Z 10, .inr (2, [.int (w.1 10 0), .int (w.1 10 1), .ref (aC Z 11), .ref (aC Z 12), .ref (aC Z 13)].set 1 (.int x))) = eC (EC Z) (wset w 10 1 x) := rfl
theorem uC_11 (Z : CSp) (w : Wd) (x : Int32) (j : Nat) : (eC (EC Z) w).set 11 (aC Z 11, .inl (cI Z, 3, .inl (upd (w.1 11) j x))) = eC (EC Z) (wset w 11 j x) := rfl
theorem vC_11 (Z : CSp) (w : Wd) (h : Nat → Int32) : (eC (EC Z) w).set 11 (aC Z 11, .inl (cI Z, 3, .inl h)) = eC (EC Z) (wfun w 11 h) := rfl
theorem uC_12 (Z : CSp) (w : Wd) (x : Int32) (j : Nat) : (eC (EC Z) w).set 12 (aC Z 12, .inl (cI Z, 6, .inl (upd (w.1 12) j x))) = eC (EC Z) (wset w 12 j x) := rfl
theorem vC_12 (Z : CSp) (w : Wd) (h : Nat → Int32) : (eC (EC Z) w).set 12 (aC Z 12, .inl (cI Z, 6, .inl h)) = eC (EC Z) (wfun w 12 h) := rfl
theorem uC_13 (Z : CSp) (w : Wd) (x : Int32) (j : Nat) : (eC (EC Z) w).set 13 (aC Z 13, .inl (cI Z, 384, .inl (upd (w.1 13) j x))) = eC (EC Z) (wset w 13 j x) := rfl
theorem vC_13 (Z : CSp) (w : Wd) (h : Nat → Int32) : (eC (EC Z) w).set 13 (aC Z 13, .inl (cI Z, 384, .inl h)) = eC (EC Z) (wfun w 13 h) := rfl
theorem uC_14_0 (Z : CSp) (w : Wd) (x : Int32) : (eC (EC Z) w).set 14 (aC Z 14, .inr (2, [.int (w.1 14 0), .int (w.1 14 1), .ref (aC Z 15), .ref (aC Z 16), .ref (aC Z 17)].set 0 (.int x))) = eC (EC Z) (wset w 14 0 x) := rfl
theorem uC_14_1 (Z : CSp) (w : Wd) (x : Int32) : (eC (EC Z) w).set 14 (aC Z 14, .inr (2, [.int (w.1 14 0), .int (w.1 14 1), .ref (aC Z 15), .ref (aC Z 16), .ref (aC Z 17)].set 1 (.int x))) = eC (EC Z) (wset w 14 1 x) := rfl
theorem uC_15 (Z : CSp) (w : Wd) (x : Int32) (j : Nat) : (eC (EC Z) w).set 15 (aC Z 15, .inl (cI Z, 3, .inl (upd (w.1 15) j x))) = eC (EC Z) (wset w 15 j x) := rfl
theorem vC_15 (Z : CSp) (w : Wd) (h : Nat → Int32) : (eC (EC Z) w).set 15 (aC Z 15, .inl (cI Z, 3, .inl h)) = eC (EC Z) (wfun w 15 h) := rfl
theorem uC_16 (Z : CSp) (w : Wd) (x : Int32) (j : Nat) : (eC (EC Z) w).set 16 (aC Z 16, .inl (cI Z, 6, .inl (upd (w.1 16) j x))) = eC (EC Z) (wset w 16 j x) := rfl
theorem vC_16 (Z : CSp) (w : Wd) (h : Nat → Int32) : (eC (EC Z) w).set 16 (aC Z 16, .inl (cI Z, 6, .inl h)) = eC (EC Z) (wfun w 16 h) := rfl
theorem uC_17 (Z : CSp) (w : Wd) (x : Int32) (j : Nat) : (eC (EC Z) w).set 17 (aC Z 17, .inl (cI Z, 384, .inl (upd (w.1 17) j x))) = eC (EC Z) (wset w 17 j x) := rfl
theorem vC_17 (Z : CSp) (w : Wd) (h : Nat → Int32) : (eC (EC Z) w).set 17 (aC Z 17, .inl (cI Z, 384, .inl h)) = eC (EC Z) (wfun w 17 h) := rfl
theorem uC_18_0 (Z : CSp) (w : Wd) (x : Int32) : (eC (EC Z) w).set 18 (aC Z 18, .inr (2, [.int (w.1 18 0), .int (w.1 18 1), .ref (aC Z 19), .ref (aC Z 20), .ref (aC Z 21)].set 0 (.int x))) = eC (EC Z) (wset w 18 0 x) := rfl
theorem uC_18_1 (Z : CSp) (w : Wd) (x : Int32) : (eC (EC Z) w).set 18 (aC Z 18, .inr (2, [.int (w.1 18 0), .int (w.1 18 1), .ref (aC Z 19), .ref (aC Z 20), .ref (aC Z 21)].set 1 (.int x))) = eC (EC Z) (wset w 18 1 x) := rfl
theorem uC_19 (Z : CSp) (w : Wd) (x : Int32) (j : Nat) : (eC (EC Z) w).set 19 (aC Z 19, .inl (cI Z, 3, .inl (upd (w.1 19) j x))) = eC (EC Z) (wset w 19 j x) := rfl
theorem vC_19 (Z : CSp) (w : Wd) (h : Nat → Int32) : (eC (EC Z) w).set 19 (aC Z 19, .inl (cI Z, 3, .inl h)) = eC (EC Z) (wfun w 19 h) := rfl
theorem uC_20 (Z : CSp) (w : Wd) (x : Int32) (j : Nat) : (eC (EC Z) w).set 20 (aC Z 20, .inl (cI Z, 6, .inl (upd (w.1 20) j x))) = eC (EC Z) (wset w 20 j x) := rfl
theorem vC_20 (Z : CSp) (w : Wd) (h : Nat → Int32) : (eC (EC Z) w).set 20 (aC Z 20, .inl (cI Z, 6, .inl h)) = eC (EC Z) (wfun w 20 h) := rfl
theorem uC_21 (Z : CSp) (w : Wd) (x : Int32) (j : Nat) : (eC (EC Z) w).set 21 (aC Z 21, .inl (cI Z, 384, .inl (upd (w.1 21) j x))) = eC (EC Z) (wset w 21 j x) := rfl
theorem vC_21 (Z : CSp) (w : Wd) (h : Nat → Int32) : (eC (EC Z) w).set 21 (aC Z 21, .inl (cI Z, 384, .inl h)) = eC (EC Z) (wfun w 21 h) := rfl
theorem uC_22_0 (Z : CSp) (w : Wd) (x : Int32) : (eC (EC Z) w).set 22 (aC Z 22, .inr (2, [.int (w.1 22 0), .int (w.1 22 1), .ref (aC Z 23), .ref (aC Z 24), .ref (aC Z 25)].set 0 (.int x))) = eC (EC Z) (wset w 22 0 x) := rfl
theorem uC_22_1 (Z : CSp) (w : Wd) (x : Int32) : (eC (EC Z) w).set 22 (aC Z 22, .inr (2, [.int (w.1 22 0), .int (w.1 22 1), .ref (aC Z 23), .ref (aC Z 24), .ref (aC Z 25)].set 1 (.int x))) = eC (EC Z) (wset w 22 1 x) := rfl
theorem uC_23 (Z : CSp) (w : Wd) (x : Int32) (j : Nat) : (eC (EC Z) w).set 23 (aC Z 23, .inl (cI Z, 3, .inl (upd (w.1 23) j x))) = eC (EC Z) (wset w 23 j x) := rfl
theorem vC_23 (Z : CSp) (w : Wd) (h : Nat → Int32) : (eC (EC Z) w).set 23 (aC Z 23, .inl (cI Z, 3, .inl h)) = eC (EC Z) (wfun w 23 h) := rfl
theorem uC_24 (Z : CSp) (w : Wd) (x : Int32) (j : Nat) : (eC (EC Z) w).set 24 (aC Z 24, .inl (cI Z, 6, .inl (upd (w.1 24) j x))) = eC (EC Z) (wset w 24 j x) := rfl
theorem vC_24 (Z : CSp) (w : Wd) (h : Nat → Int32) : (eC (EC Z) w).set 24 (aC Z 24, .inl (cI Z, 6, .inl h)) = eC (EC Z) (wfun w 24 h) := rfl
theorem uC_25 (Z : CSp) (w : Wd) (x : Int32) (j : Nat) : (eC (EC Z) w).set 25 (aC Z 25, .inl (cI Z, 384, .inl (upd (w.1 25) j x))) = eC (EC Z) (wset w 25 j x) := rfl
theorem vC_25 (Z : CSp) (w : Wd) (h : Nat → Int32) : (eC (EC Z) w).set 25 (aC Z 25, .inl (cI Z, 384, .inl h)) = eC (EC Z) (wfun w 25 h) := rfl
theorem uC_26_0 (Z : CSp) (w : Wd) (x : Int32) : (eC (EC Z) w).set 26 (aC Z 26, .inr (2, [.int (w.1 26 0), .int (w.1 26 1), .ref (aC Z 27), .ref (aC Z 28), .ref (aC Z 29)].set 0 (.int x))) = eC (EC Z) (wset w 26 0 x) := rfl
theorem uC_26_1 (Z : CSp) (w : Wd) (x : Int32) : (eC (EC Z) w).set 26 (aC Z 26, .inr (2, [.int (w.1 26 0), .int (w.1 26 1), .ref (aC Z 27), .ref (aC Z 28), .ref (aC Z 29)].set 1 (.int x))) = eC (EC Z) (wset w 26 1 x) := rfl
theorem uC_27 (Z : CSp) (w : Wd) (x : Int32) (j : Nat) : (eC (EC Z) w).set 27 (aC Z 27, .inl (cI Z, 3, .inl (upd (w.1 27) j x))) = eC (EC Z) (wset w 27 j x) := rfl
theorem vC_27 (Z : CSp) (w : Wd) (h : Nat → Int32) : (eC (EC Z) w).set 27 (aC Z 27, .inl (cI Z, 3, .inl h)) = eC (EC Z) (wfun w 27 h) := rfl
theorem uC_28 (Z : CSp) (w : Wd) (x : Int32) (j : Nat) : (eC (EC Z) w).set 28 (aC Z 28, .inl (cI Z, 6, .inl (upd (w.1 28) j x))) = eC (EC Z) (wset w 28 j x) := rfl
theorem vC_28 (Z : CSp) (w : Wd) (h : Nat → Int32) : (eC (EC Z) w).set 28 (aC Z 28, .inl (cI Z, 6, .inl h)) = eC (EC Z) (wfun w 28 h) := rfl
theorem uC_29 (Z : CSp) (w : Wd) (x : Int32) (j : Nat) : (eC (EC Z) w).set 29 (aC Z 29, .inl (cI Z, 384, .inl (upd (w.1 29) j x))) = eC (EC Z) (wset w 29 j x) := rfl
theorem vC_29 (Z : CSp) (w : Wd) (h : Nat → Int32) : (eC (EC Z) w).set 29 (aC Z 29, .inl (cI Z, 384, .inl h)) = eC (EC Z) (wfun w 29 h) := rfl
theorem uC_30_0 (Z : CSp) (w : Wd) (x : Int32) : (eC (EC Z) w).set 30 (aC Z 30, .inr (2, [.int (w.1 30 0), .int (w.1 30 1), .ref (aC Z 31), .ref (aC Z 32), .ref (aC Z 33)].set 0 (.int x))) = eC (EC Z) (wset w 30 0 x) := rfl
theorem uC_30_1 (Z : CSp) (w : Wd) (x : Int32) : (eC (EC Z) w).set 30 (aC Z 30, .inr (2, [.int (w.1 30 0), .int (w.1 30 1), .ref (aC Z 31), .ref (aC Z 32), .ref (aC Z 33)].set 1 (.int x))) = eC (EC Z) (wset w 30 1 x) := rfl
theorem uC_31 (Z : CSp) (w : Wd) (x : Int32) (j : Nat) : (eC (EC Z) w).set 31 (aC Z 31, .inl (cI Z, 3, .inl (upd (w.1 31) j x))) = eC (EC Z) (wset w 31 j x) := rfl
theorem vC_31 (Z : CSp) (w : Wd) (h : Nat → Int32) : (eC (EC Z) w).set 31 (aC Z 31, .inl (cI Z, 3, .inl h)) = eC (EC Z) (wfun w 31 h) := rfl
theorem uC_32 (Z : CSp) (w : Wd) (x : Int32) (j : Nat) : (eC (EC Z) w).set 32 (aC Z 32, .inl (cI Z, 6, .inl (upd (w.1 32) j x))) = eC (EC Z) (wset w 32 j x) := rfl
theorem vC_32 (Z : CSp) (w : Wd) (h : Nat → Int32) : (eC (EC Z) w).set 32 (aC Z 32, .inl (cI Z, 6, .inl h)) = eC (EC Z) (wfun w 32 h) := rfl
theorem uC_33 (Z : CSp) (w : Wd) (x : Int32) (j : Nat) : (eC (EC Z) w).set 33 (aC Z 33, .inl (cI Z, 384, .inl (upd (w.1 33) j x))) = eC (EC Z) (wset w 33 j x) := rfl
theorem vC_33 (Z : CSp) (w : Wd) (h : Nat → Int32) : (eC (EC Z) w).set 33 (aC Z 33, .inl (cI Z, 384, .inl h)) = eC (EC Z) (wfun w 33 h) := rfl
theorem uC_34_0 (Z : CSp) (w : Wd) (x : Int32) : (eC (EC Z) w).set 34 (aC Z 34, .inr (2, [.int (w.1 34 0), .int (w.1 34 1), .ref (aC Z 35), .ref (aC Z 36), .ref (aC Z 37)].set 0 (.int x))) = eC (EC Z) (wset w 34 0 x) := rfl
theorem uC_34_1 (Z : CSp) (w : Wd) (x : Int32) : (eC (EC Z) w).set 34 (aC Z 34, .inr (2, [.int (w.1 34 0), .int (w.1 34 1), .ref (aC Z 35), .ref (aC Z 36), .ref (aC Z 37)].set 1 (.int x))) = eC (EC Z) (wset w 34 1 x) := rfl
theorem uC_35 (Z : CSp) (w : Wd) (x : Int32) (j : Nat) : (eC (EC Z) w).set 35 (aC Z 35, .inl (cI Z, 3, .inl (upd (w.1 35) j x))) = eC (EC Z) (wset w 35 j x) := rfl
theorem vC_35 (Z : CSp) (w : Wd) (h : Nat → Int32) : (eC (EC Z) w).set 35 (aC Z 35, .inl (cI Z, 3, .inl h)) = eC (EC Z) (wfun w 35 h) := rfl
theorem uC_36 (Z : CSp) (w : Wd) (x : Int32) (j : Nat) : (eC (EC Z) w).set 36 (aC Z 36, .inl (cI Z, 6, .inl (upd (w.1 36) j x))) = eC (EC Z) (wset w 36 j x) := rfl
theorem vC_36 (Z : CSp) (w : Wd) (h : Nat → Int32) : (eC (EC Z) w).set 36 (aC Z 36, .inl (cI Z, 6, .inl h)) = eC (EC Z) (wfun w 36 h) := rfl
theorem uC_37 (Z : CSp) (w : Wd) (x : Int32) (j : Nat) : (eC (EC Z) w).set 37 (aC Z 37, .inl (cI Z, 384, .inl (upd (w.1 37) j x))) = eC (EC Z) (wset w 37 j x) := rfl
theorem vC_37 (Z : CSp) (w : Wd) (h : Nat → Int32) : (eC (EC Z) w).set 37 (aC Z 37, .inl (cI Z, 384, .inl h)) = eC (EC Z) (wfun w 37 h) := rfl
theorem qM_0 (Z : CSp) (w : Wd) : (eC (EM Z) w)[0]? = some (aC Z 0, .inr (4, [.ref (aC Z 1), .ref (aC Z 2), .ref (aC Z 3), .int (w.1 0 3), .ref (aC Z 4), .ref (aC Z 5), .int (w.1 0 6), .int (w.1 0 7), .int (w.1 0 8), .int (w.1 0 9), .int (w.1 0 10), .ref (aC Z 6), .int (w.1 0 12), .int (w.1 0 13), .ref (aC Z 7), .ref (aC Z 8), .ref (aC Z 9), .ref (aC Z 10), .float (w.1 0 18).toUInt32, .float (w.1 0 19).toUInt32, .int (w.1 0 20), .ref (aC Z 11), .ref (aC Z 12), .int (w.1 0 23), .int (w.1 0 24), .int (w.1 0 25), .long w.2])) := rfl
theorem qM_1 (Z : CSp) (w : Wd) : (eC (EM Z) w)[1]? = some (aC Z 1, .inl (cI Z, 395, .inl (w.1 1))) := rfl
theorem qM_2 (Z : CSp) (w : Wd) : (eC (EM Z) w)[2]? = some (aC Z 2, .inl (cI Z, 395, .inl (w.1 2))) := rfl
theorem qM_3 (Z : CSp) (w : Wd) : (eC (EM Z) w)[3]? = some (aC Z 3, .inl (cI Z, 1975, .inl (w.1 3))) := rfl
theorem qM_4 (Z : CSp) (w : Wd) : (eC (EM Z) w)[4]? = some (aC Z 4, .inl (cI Z, 3, .inl (w.1 4))) := rfl
theorem qM_5 (Z : CSp) (w : Wd) : (eC (EM Z) w)[5]? = some (aC Z 5, .inl (cI Z, 150, .inl (w.1 5))) := rfl
theorem qM_6 (Z : CSp) (w : Wd) : (eC (EM Z) w)[6]? = some (aC Z 6, .inl (cI Z, 3, .inl (w.1 6))) := rfl
theorem qM_7 (Z : CSp) (w : Wd) : (eC (EM Z) w)[7]? = some (aC Z 7, .inl (cI Z, 16, .inl (w.1 7))) := rfl
theorem qM_8 (Z : CSp) (w : Wd) : (eC (EM Z) w)[8]? = some (aC Z 8, .inl (cI Z, 16, .inl (w.1 8))) := rfl
theorem qM_9 (Z : CSp) (w : Wd) : (eC (EM Z) w)[9]? = some (aC Z 9, .inl (cI Z, 16, .inl (w.1 9))) := rfl
theorem qM_10 (Z : CSp) (w : Wd) : (eC (EM Z) w)[10]? = some (aC Z 10, .inl (cI Z, 16, .inl (w.1 10))) := rfl
theorem qM_11 (Z : CSp) (w : Wd) : (eC (EM Z) w)[11]? = some (aC Z 11, .inl (cI Z, 75, .inl (w.1 11))) := rfl
theorem qM_12 (Z : CSp) (w : Wd) : (eC (EM Z) w)[12]? = some (aC Z 12, .inl (cI Z, 375, .inl (w.1 12))) := rfl
theorem uM_0_3 (Z : CSp) (w : Wd) (x : Int32) : (eC (EM Z) w).set 0 (aC Z 0, .inr (4, [.ref (aC Z 1), .ref (aC Z 2), .ref (aC Z 3), .int (w.1 0 3), .ref (aC Z 4), .ref (aC Z 5), .int (w.1 0 6), .int (w.1 0 7), .int (w.1 0 8), .int (w.1 0 9), .int (w.1 0 10), .ref (aC Z 6), .int (w.1 0 12), .int (w.1 0 13), .ref (aC Z 7), .ref (aC Z 8), .ref (aC Z 9), .ref (aC Z 10), .float (w.1 0 18).toUInt32, .float (w.1 0 19).toUInt32, .int (w.1 0 20), .ref (aC Z 11), .ref (aC Z 12), .int (w.1 0 23), .int (w.1 0 24), .int (w.1 0 25), .long w.2].set 3 (.int x))) = eC (EM Z) (wset w 0 3 x) := rfl
theorem uM_0_6 (Z : CSp) (w : Wd) (x : Int32) : (eC (EM Z) w).set 0 (aC Z 0, .inr (4, [.ref (aC Z 1), .ref (aC Z 2), .ref (aC Z 3), .int (w.1 0 3), .ref (aC Z 4), .ref (aC Z 5), .int (w.1 0 6), .int (w.1 0 7), .int (w.1 0 8), .int (w.1 0 9), .int (w.1 0 10), .ref (aC Z 6), .int (w.1 0 12), .int (w.1 0 13), .ref (aC Z 7), .ref (aC Z 8), .ref (aC Z 9), .ref (aC Z 10), .float (w.1 0 18).toUInt32, .float (w.1 0 19).toUInt32, .int (w.1 0 20), .ref (aC Z 11), .ref (aC Z 12), .int (w.1 0 23), .int (w.1 0 24), .int (w.1 0 25), .long w.2].set 6 (.int x))) = eC (EM Z) (wset w 0 6 x) := rfl
theorem uM_0_7 (Z : CSp) (w : Wd) (x : Int32) : (eC (EM Z) w).set 0 (aC Z 0, .inr (4, [.ref (aC Z 1), .ref (aC Z 2), .ref (aC Z 3), .int (w.1 0 3), .ref (aC Z 4), .ref (aC Z 5), .int (w.1 0 6), .int (w.1 0 7), .int (w.1 0 8), .int (w.1 0 9), .int (w.1 0 10), .ref (aC Z 6), .int (w.1 0 12), .int (w.1 0 13), .ref (aC Z 7), .ref (aC Z 8), .ref (aC Z 9), .ref (aC Z 10), .float (w.1 0 18).toUInt32, .float (w.1 0 19).toUInt32, .int (w.1 0 20), .ref (aC Z 11), .ref (aC Z 12), .int (w.1 0 23), .int (w.1 0 24), .int (w.1 0 25), .long w.2].set 7 (.int x))) = eC (EM Z) (wset w 0 7 x) := rfl
theorem uM_0_8 (Z : CSp) (w : Wd) (x : Int32) : (eC (EM Z) w).set 0 (aC Z 0, .inr (4, [.ref (aC Z 1), .ref (aC Z 2), .ref (aC Z 3), .int (w.1 0 3), .ref (aC Z 4), .ref (aC Z 5), .int (w.1 0 6), .int (w.1 0 7), .int (w.1 0 8), .int (w.1 0 9), .int (w.1 0 10), .ref (aC Z 6), .int (w.1 0 12), .int (w.1 0 13), .ref (aC Z 7), .ref (aC Z 8), .ref (aC Z 9), .ref (aC Z 10), .float (w.1 0 18).toUInt32, .float (w.1 0 19).toUInt32, .int (w.1 0 20), .ref (aC Z 11), .ref (aC Z 12), .int (w.1 0 23), .int (w.1 0 24), .int (w.1 0 25), .long w.2].set 8 (.int x))) = eC (EM Z) (wset w 0 8 x) := rfl
theorem uM_0_9 (Z : CSp) (w : Wd) (x : Int32) : (eC (EM Z) w).set 0 (aC Z 0, .inr (4, [.ref (aC Z 1), .ref (aC Z 2), .ref (aC Z 3), .int (w.1 0 3), .ref (aC Z 4), .ref (aC Z 5), .int (w.1 0 6), .int (w.1 0 7), .int (w.1 0 8), .int (w.1 0 9), .int (w.1 0 10), .ref (aC Z 6), .int (w.1 0 12), .int (w.1 0 13), .ref (aC Z 7), .ref (aC Z 8), .ref (aC Z 9), .ref (aC Z 10), .float (w.1 0 18).toUInt32, .float (w.1 0 19).toUInt32, .int (w.1 0 20), .ref (aC Z 11), .ref (aC Z 12), .int (w.1 0 23), .int (w.1 0 24), .int (w.1 0 25), .long w.2].set 9 (.int x))) = eC (EM Z) (wset w 0 9 x) := rfl
theorem uM_0_10 (Z : CSp) (w : Wd) (x : Int32) : (eC (EM Z) w).set 0 (aC Z 0, .inr (4, [.ref (aC Z 1), .ref (aC Z 2), .ref (aC Z 3), .int (w.1 0 3), .ref (aC Z 4), .ref (aC Z 5), .int (w.1 0 6), .int (w.1 0 7), .int (w.1 0 8), .int (w.1 0 9), .int (w.1 0 10), .ref (aC Z 6), .int (w.1 0 12), .int (w.1 0 13), .ref (aC Z 7), .ref (aC Z 8), .ref (aC Z 9), .ref (aC Z 10), .float (w.1 0 18).toUInt32, .float (w.1 0 19).toUInt32, .int (w.1 0 20), .ref (aC Z 11), .ref (aC Z 12), .int (w.1 0 23), .int (w.1 0 24), .int (w.1 0 25), .long w.2].set 10 (.int x))) = eC (EM Z) (wset w 0 10 x) := rfl
theorem uM_0_12 (Z : CSp) (w : Wd) (x : Int32) : (eC (EM Z) w).set 0 (aC Z 0, .inr (4, [.ref (aC Z 1), .ref (aC Z 2), .ref (aC Z 3), .int (w.1 0 3), .ref (aC Z 4), .ref (aC Z 5), .int (w.1 0 6), .int (w.1 0 7), .int (w.1 0 8), .int (w.1 0 9), .int (w.1 0 10), .ref (aC Z 6), .int (w.1 0 12), .int (w.1 0 13), .ref (aC Z 7), .ref (aC Z 8), .ref (aC Z 9), .ref (aC Z 10), .float (w.1 0 18).toUInt32, .float (w.1 0 19).toUInt32, .int (w.1 0 20), .ref (aC Z 11), .ref (aC Z 12), .int (w.1 0 23), .int (w.1 0 24), .int (w.1 0 25), .long w.2].set 12 (.int x))) = eC (EM Z) (wset w 0 12 x) := rfl
theorem uM_0_13 (Z : CSp) (w : Wd) (x : Int32) : (eC (EM Z) w).set 0 (aC Z 0, .inr (4, [.ref (aC Z 1), .ref (aC Z 2), .ref (aC Z 3), .int (w.1 0 3), .ref (aC Z 4), .ref (aC Z 5), .int (w.1 0 6), .int (w.1 0 7), .int (w.1 0 8), .int (w.1 0 9), .int (w.1 0 10), .ref (aC Z 6), .int (w.1 0 12), .int (w.1 0 13), .ref (aC Z 7), .ref (aC Z 8), .ref (aC Z 9), .ref (aC Z 10), .float (w.1 0 18).toUInt32, .float (w.1 0 19).toUInt32, .int (w.1 0 20), .ref (aC Z 11), .ref (aC Z 12), .int (w.1 0 23), .int (w.1 0 24), .int (w.1 0 25), .long w.2].set 13 (.int x))) = eC (EM Z) (wset w 0 13 x) := rfl
theorem uM_0_18 (Z : CSp) (w : Wd) (x : UInt32) : (eC (EM Z) w).set 0 (aC Z 0, .inr (4, [.ref (aC Z 1), .ref (aC Z 2), .ref (aC Z 3), .int (w.1 0 3), .ref (aC Z 4), .ref (aC Z 5), .int (w.1 0 6), .int (w.1 0 7), .int (w.1 0 8), .int (w.1 0 9), .int (w.1 0 10), .ref (aC Z 6), .int (w.1 0 12), .int (w.1 0 13), .ref (aC Z 7), .ref (aC Z 8), .ref (aC Z 9), .ref (aC Z 10), .float (w.1 0 18).toUInt32, .float (w.1 0 19).toUInt32, .int (w.1 0 20), .ref (aC Z 11), .ref (aC Z 12), .int (w.1 0 23), .int (w.1 0 24), .int (w.1 0 25), .long w.2].set 18 (.float x))) = eC (EM Z) (wset w 0 18 x.toInt32) := rfl
theorem uM_0_19 (Z : CSp) (w : Wd) (x : UInt32) : (eC (EM Z) w).set 0 (aC Z 0, .inr (4, [.ref (aC Z 1), .ref (aC Z 2), .ref (aC Z 3), .int (w.1 0 3), .ref (aC Z 4), .ref (aC Z 5), .int (w.1 0 6), .int (w.1 0 7), .int (w.1 0 8), .int (w.1 0 9), .int (w.1 0 10), .ref (aC Z 6), .int (w.1 0 12), .int (w.1 0 13), .ref (aC Z 7), .ref (aC Z 8), .ref (aC Z 9), .ref (aC Z 10), .float (w.1 0 18).toUInt32, .float (w.1 0 19).toUInt32, .int (w.1 0 20), .ref (aC Z 11), .ref (aC Z 12), .int (w.1 0 23), .int (w.1 0 24), .int (w.1 0 25), .long w.2].set 19 (.float x))) = eC (EM Z) (wset w 0 19 x.toInt32) := rfl
theorem uM_0_20 (Z : CSp) (w : Wd) (x : Int32) : (eC (EM Z) w).set 0 (aC Z 0, .inr (4, [.ref (aC Z 1), .ref (aC Z 2), .ref (aC Z 3), .int (w.1 0 3), .ref (aC Z 4), .ref (aC Z 5), .int (w.1 0 6), .int (w.1 0 7), .int (w.1 0 8), .int (w.1 0 9), .int (w.1 0 10), .ref (aC Z 6), .int (w.1 0 12), .int (w.1 0 13), .ref (aC Z 7), .ref (aC Z 8), .ref (aC Z 9), .ref (aC Z 10), .float (w.1 0 18).toUInt32, .float (w.1 0 19).toUInt32, .int (w.1 0 20), .ref (aC Z 11), .ref (aC Z 12), .int (w.1 0 23), .int (w.1 0 24), .int (w.1 0 25), .long w.2].set 20 (.int x))) = eC (EM Z) (wset w 0 20 x) := rfl
theorem uM_0_23 (Z : CSp) (w : Wd) (x : Int32) : (eC (EM Z) w).set 0 (aC Z 0, .inr (4, [.ref (aC Z 1), .ref (aC Z 2), .ref (aC Z 3), .int (w.1 0 3), .ref (aC Z 4), .ref (aC Z 5), .int (w.1 0 6), .int (w.1 0 7), .int (w.1 0 8), .int (w.1 0 9), .int (w.1 0 10), .ref (aC Z 6), .int (w.1 0 12), .int (w.1 0 13), .ref (aC Z 7), .ref (aC Z 8), .ref (aC Z 9), .ref (aC Z 10), .float (w.1 0 18).toUInt32, .float (w.1 0 19).toUInt32, .int (w.1 0 20), .ref (aC Z 11), .ref (aC Z 12), .int (w.1 0 23), .int (w.1 0 24), .int (w.1 0 25), .long w.2].set 23 (.int x))) = eC (EM Z) (wset w 0 23 x) := rfl
theorem uM_0_24 (Z : CSp) (w : Wd) (x : Int32) : (eC (EM Z) w).set 0 (aC Z 0, .inr (4, [.ref (aC Z 1), .ref (aC Z 2), .ref (aC Z 3), .int (w.1 0 3), .ref (aC Z 4), .ref (aC Z 5), .int (w.1 0 6), .int (w.1 0 7), .int (w.1 0 8), .int (w.1 0 9), .int (w.1 0 10), .ref (aC Z 6), .int (w.1 0 12), .int (w.1 0 13), .ref (aC Z 7), .ref (aC Z 8), .ref (aC Z 9), .ref (aC Z 10), .float (w.1 0 18).toUInt32, .float (w.1 0 19).toUInt32, .int (w.1 0 20), .ref (aC Z 11), .ref (aC Z 12), .int (w.1 0 23), .int (w.1 0 24), .int (w.1 0 25), .long w.2].set 24 (.int x))) = eC (EM Z) (wset w 0 24 x) := rfl
theorem uM_0_25 (Z : CSp) (w : Wd) (x : Int32) : (eC (EM Z) w).set 0 (aC Z 0, .inr (4, [.ref (aC Z 1), .ref (aC Z 2), .ref (aC Z 3), .int (w.1 0 3), .ref (aC Z 4), .ref (aC Z 5), .int (w.1 0 6), .int (w.1 0 7), .int (w.1 0 8), .int (w.1 0 9), .int (w.1 0 10), .ref (aC Z 6), .int (w.1 0 12), .int (w.1 0 13), .ref (aC Z 7), .ref (aC Z 8), .ref (aC Z 9), .ref (aC Z 10), .float (w.1 0 18).toUInt32, .float (w.1 0 19).toUInt32, .int (w.1 0 20), .ref (aC Z 11), .ref (aC Z 12), .int (w.1 0 23), .int (w.1 0 24), .int (w.1 0 25), .long w.2].set 25 (.int x))) = eC (EM Z) (wset w 0 25 x) := rfl
theorem uM_0_26 (Z : CSp) (w : Wd) (x : Int64) : (eC (EM Z) w).set 0 (aC Z 0, .inr (4, [.ref (aC Z 1), .ref (aC Z 2), .ref (aC Z 3), .int (w.1 0 3), .ref (aC Z 4), .ref (aC Z 5), .int (w.1 0 6), .int (w.1 0 7), .int (w.1 0 8), .int (w.1 0 9), .int (w.1 0 10), .ref (aC Z 6), .int (w.1 0 12), .int (w.1 0 13), .ref (aC Z 7), .ref (aC Z 8), .ref (aC Z 9), .ref (aC Z 10), .float (w.1 0 18).toUInt32, .float (w.1 0 19).toUInt32, .int (w.1 0 20), .ref (aC Z 11), .ref (aC Z 12), .int (w.1 0 23), .int (w.1 0 24), .int (w.1 0 25), .long w.2].set 26 (.long x))) = eC (EM Z) (wlong w x) := rfl
theorem uM_1 (Z : CSp) (w : Wd) (x : Int32) (j : Nat) : (eC (EM Z) w).set 1 (aC Z 1, .inl (cI Z, 395, .inl (upd (w.1 1) j x))) = eC (EM Z) (wset w 1 j x) := rfl
theorem vM_1 (Z : CSp) (w : Wd) (h : Nat → Int32) : (eC (EM Z) w).set 1 (aC Z 1, .inl (cI Z, 395, .inl h)) = eC (EM Z) (wfun w 1 h) := rfl
theorem uM_2 (Z : CSp) (w : Wd) (x : Int32) (j : Nat) : (eC (EM Z) w).set 2 (aC Z 2, .inl (cI Z, 395, .inl (upd (w.1 2) j x))) = eC (EM Z) (wset w 2 j x) := rfl
theorem vM_2 (Z : CSp) (w : Wd) (h : Nat → Int32) : (eC (EM Z) w).set 2 (aC Z 2, .inl (cI Z, 395, .inl h)) = eC (EM Z) (wfun w 2 h) := rfl
theorem uM_3 (Z : CSp) (w : Wd) (x : Int32) (j : Nat) : (eC (EM Z) w).set 3 (aC Z 3, .inl (cI Z, 1975, .inl (upd (w.1 3) j x))) = eC (EM Z) (wset w 3 j x) := rfl
theorem vM_3 (Z : CSp) (w : Wd) (h : Nat → Int32) : (eC (EM Z) w).set 3 (aC Z 3, .inl (cI Z, 1975, .inl h)) = eC (EM Z) (wfun w 3 h) := rfl
theorem uM_4 (Z : CSp) (w : Wd) (x : Int32) (j : Nat) : (eC (EM Z) w).set 4 (aC Z 4, .inl (cI Z, 3, .inl (upd (w.1 4) j x))) = eC (EM Z) (wset w 4 j x) := rfl
theorem vM_4 (Z : CSp) (w : Wd) (h : Nat → Int32) : (eC (EM Z) w).set 4 (aC Z 4, .inl (cI Z, 3, .inl h)) = eC (EM Z) (wfun w 4 h) := rfl
theorem uM_5 (Z : CSp) (w : Wd) (x : Int32) (j : Nat) : (eC (EM Z) w).set 5 (aC Z 5, .inl (cI Z, 150, .inl (upd (w.1 5) j x))) = eC (EM Z) (wset w 5 j x) := rfl
theorem vM_5 (Z : CSp) (w : Wd) (h : Nat → Int32) : (eC (EM Z) w).set 5 (aC Z 5, .inl (cI Z, 150, .inl h)) = eC (EM Z) (wfun w 5 h) := rfl
theorem uM_6 (Z : CSp) (w : Wd) (x : Int32) (j : Nat) : (eC (EM Z) w).set 6 (aC Z 6, .inl (cI Z, 3, .inl (upd (w.1 6) j x))) = eC (EM Z) (wset w 6 j x) := rfl
theorem vM_6 (Z : CSp) (w : Wd) (h : Nat → Int32) : (eC (EM Z) w).set 6 (aC Z 6, .inl (cI Z, 3, .inl h)) = eC (EM Z) (wfun w 6 h) := rfl
theorem uM_7 (Z : CSp) (w : Wd) (x : Int32) (j : Nat) : (eC (EM Z) w).set 7 (aC Z 7, .inl (cI Z, 16, .inl (upd (w.1 7) j x))) = eC (EM Z) (wset w 7 j x) := rfl
theorem vM_7 (Z : CSp) (w : Wd) (h : Nat → Int32) : (eC (EM Z) w).set 7 (aC Z 7, .inl (cI Z, 16, .inl h)) = eC (EM Z) (wfun w 7 h) := rfl
theorem uM_8 (Z : CSp) (w : Wd) (x : Int32) (j : Nat) : (eC (EM Z) w).set 8 (aC Z 8, .inl (cI Z, 16, .inl (upd (w.1 8) j x))) = eC (EM Z) (wset w 8 j x) := rfl
theorem vM_8 (Z : CSp) (w : Wd) (h : Nat → Int32) : (eC (EM Z) w).set 8 (aC Z 8, .inl (cI Z, 16, .inl h)) = eC (EM Z) (wfun w 8 h) := rfl
theorem uM_9 (Z : CSp) (w : Wd) (x : Int32) (j : Nat) : (eC (EM Z) w).set 9 (aC Z 9, .inl (cI Z, 16, .inl (upd (w.1 9) j x))) = eC (EM Z) (wset w 9 j x) := rfl
theorem vM_9 (Z : CSp) (w : Wd) (h : Nat → Int32) : (eC (EM Z) w).set 9 (aC Z 9, .inl (cI Z, 16, .inl h)) = eC (EM Z) (wfun w 9 h) := rfl
theorem uM_10 (Z : CSp) (w : Wd) (x : Int32) (j : Nat) : (eC (EM Z) w).set 10 (aC Z 10, .inl (cI Z, 16, .inl (upd (w.1 10) j x))) = eC (EM Z) (wset w 10 j x) := rfl
theorem vM_10 (Z : CSp) (w : Wd) (h : Nat → Int32) : (eC (EM Z) w).set 10 (aC Z 10, .inl (cI Z, 16, .inl h)) = eC (EM Z) (wfun w 10 h) := rfl
theorem uM_11 (Z : CSp) (w : Wd) (x : Int32) (j : Nat) : (eC (EM Z) w).set 11 (aC Z 11, .inl (cI Z, 75, .inl (upd (w.1 11) j x))) = eC (EM Z) (wset w 11 j x) := rfl
theorem vM_11 (Z : CSp) (w : Wd) (h : Nat → Int32) : (eC (EM Z) w).set 11 (aC Z 11, .inl (cI Z, 75, .inl h)) = eC (EM Z) (wfun w 11 h) := rfl
theorem uM_12 (Z : CSp) (w : Wd) (x : Int32) (j : Nat) : (eC (EM Z) w).set 12 (aC Z 12, .inl (cI Z, 375, .inl (upd (w.1 12) j x))) = eC (EM Z) (wset w 12 j x) := rfl
theorem vM_12 (Z : CSp) (w : Wd) (h : Nat → Int32) : (eC (EM Z) w).set 12 (aC Z 12, .inl (cI Z, 375, .inl h)) = eC (EM Z) (wfun w 12 h) := rfl
theorem FX1 : FC 0 RX1 TX1 8 := ⟨rfl, fun w h => gt_of ((by decide +kernel : ∀ w ∈ u_ws RX1 TX1 8, w ∈ lw_tbl) w h) ((by decide +kernel : ∀ w ∈ u_ws RX1 TX1 8, goodWord w = true) w h)⟩
theorem FX2 : FC 1 RX2 TX2 8 := ⟨rfl, fun w h => gt_of ((by decide +kernel : ∀ w ∈ u_ws RX2 TX2 8, w ∈ lw_tbl) w h) ((by decide +kernel : ∀ w ∈ u_ws RX2 TX2 8, goodWord w = true) w h)⟩
theorem FX4 : FC 2 RX4 TX4 5 := ⟨rfl, fun w h => gt_of ((by decide +kernel : ∀ w ∈ u_ws RX4 TX4 5, w ∈ lw_tbl) w h) ((by decide +kernel : ∀ w ∈ u_ws RX4 TX4 5, goodWord w = true) w h)⟩
theorem FX5 : FC 3 RX5 TX5 9 := ⟨rfl, fun w h => gt_of ((by decide +kernel : ∀ w ∈ u_ws RX5 TX5 9, w ∈ lw_tbl) w h) ((by decide +kernel : ∀ w ∈ u_ws RX5 TX5 9, goodWord w = true) w h)⟩
theorem FX6 : FC 4 RX6 TX6 27 := ⟨rfl, fun w h => gt_of ((by decide +kernel : ∀ w ∈ u_ws RX6 TX6 27, w ∈ lw_tbl) w h) ((by decide +kernel : ∀ w ∈ u_ws RX6 TX6 27, goodWord w = true) w h)⟩
theorem r_puti {τ : Type} {E : Sp} {M : Mt} {O : τ → Option Value × Wd} {w : Wd} {pc : Nat} {lv : List (Nat × Value)} {st : List Value} {K : Wd → Option τ} {C₀ : String} {T : u_T} {N ci i a j q : Nat} {fs : List Value} {x : Int32} {ty0 : Nat → FieldType} (F : FC ci C₀ T N) (hty : ∀ k, k < N → parseFieldDescriptor (T k).2.2.1 = some (ty0 k)) (hnm : ∀ a, a < N → ∀ b, b < N → a ≠ b → (T a).2.1 ≠ (T b).2.1) (hk : Cond.fieldLink M.2.1 i (T j).1 (T j).2.1 (T j).2.2.1 ∈ GT) (he : (eC E w)[q]? = some (a, .inr (ci, fs))) (hj : j < N ∧ j < fs.length ∧ (T j).2.2.2 = false) (hty1 : parseFieldDescriptor (T j).2.2.1 = some .int) (hset : (eC E w).set q (a, .inr (ci, fs.set j (Value.int x))) = eC E (wset w q j x)) (d : decode M.1 pc = .ok (.putfield i, 3)) (k : ∀ w1 : Wd, Wm E M O w1 (pc + 3) lv st (K w1)) : Wm E M O w pc lv (Value.int x :: .ref a :: st) (wput w q j x K) := r_putG F hty hnm j hj.1 hk q he hj.2.2 hty1 rfl rfl hj.2.1 hset d (k _)
theorem r_putf {τ : Type} {E : Sp} {M : Mt} {O : τ → Option Value × Wd} {w : Wd} {pc : Nat} {lv : List (Nat × Value)} {st : List Value} {K : Wd → Option τ} {C₀ : String} {T : u_T} {N ci i a j q : Nat} {fs : List Value} {x : UInt32} {ty0 : Nat → FieldType} (F : FC ci C₀ T N) (hty : ∀ k, k < N → parseFieldDescriptor (T k).2.2.1 = some (ty0 k)) (hnm : ∀ a, a < N → ∀ b, b < N → a ≠ b → (T a).2.1 ≠ (T b).2.1) (hk : Cond.fieldLink M.2.1 i (T j).1 (T j).2.1 (T j).2.2.1 ∈ GT) (he : (eC E w)[q]? = some (a, .inr (ci, fs))) (hj : j < N ∧ j < fs.length ∧ (T j).2.2.2 = false) (hty1 : parseFieldDescriptor (T j).2.2.1 = some .float) (hset : (eC E w).set q (a, .inr (ci, fs.set j (Value.float x))) = eC E (wset w q j x.toInt32)) (d : decode M.1 pc = .ok (.putfield i, 3)) (k : ∀ w1 : Wd, Wm E M O w1 (pc + 3) lv st (K w1)) : Wm E M O w pc lv (Value.float x :: .ref a :: st) (wput w q j x.toInt32 K) := r_putG F hty hnm j hj.1 hk q he hj.2.2 hty1 rfl rfl hj.2.1 hset d (k _)
theorem r_putz {τ : Type} {E : Sp} {M : Mt} {O : τ → Option Value × Wd} {w : Wd} {pc : Nat} {lv : List (Nat × Value)} {st : List Value} {K : Wd → Option τ} {C₀ : String} {T : u_T} {N ci i a j q : Nat} {fs : List Value} {x : Int32} {ty0 : Nat → FieldType} (F : FC ci C₀ T N) (hty : ∀ k, k < N → parseFieldDescriptor (T k).2.2.1 = some (ty0 k)) (hnm : ∀ a, a < N → ∀ b, b < N → a ≠ b → (T a).2.1 ≠ (T b).2.1) (hk : Cond.fieldLink M.2.1 i (T j).1 (T j).2.1 (T j).2.2.1 ∈ GT) (he : (eC E w)[q]? = some (a, .inr (ci, fs))) (hj : j < N ∧ j < fs.length ∧ (T j).2.2.2 = false) (hty1 : parseFieldDescriptor (T j).2.2.1 = some .boolean) (hx : narrow .boolean (.int x) = .int x ∧ fits .boolean (.int x) = true) (hset : (eC E w).set q (a, .inr (ci, fs.set j (.int x))) = eC E (wset w q j x)) (d : decode M.1 pc = .ok (.putfield i, 3)) (k : ∀ w1 : Wd, Wm E M O w1 (pc + 3) lv st (K w1)) : Wm E M O w pc lv (.int x :: .ref a :: st) (wput w q j x K) := r_putG F hty hnm j hj.1 hk q he hj.2.2 hty1 hx.1 hx.2 hj.2.1 hset d (k _)
theorem r_putl {τ : Type} {E : Sp} {M : Mt} {O : τ → Option Value × Wd} {w : Wd} {pc : Nat} {lv : List (Nat × Value)} {st : List Value} {K : Wd → Option τ} {C₀ : String} {T : u_T} {N ci i a j q : Nat} {fs : List Value} {x : Int64} {ty0 : Nat → FieldType} (F : FC ci C₀ T N) (hty : ∀ k, k < N → parseFieldDescriptor (T k).2.2.1 = some (ty0 k)) (hnm : ∀ a, a < N → ∀ b, b < N → a ≠ b → (T a).2.1 ≠ (T b).2.1) (hk : Cond.fieldLink M.2.1 i (T j).1 (T j).2.1 (T j).2.2.1 ∈ GT) (he : (eC E w)[q]? = some (a, .inr (ci, fs))) (hj : j < N ∧ j < fs.length ∧ (T j).2.2.2 = false) (hty1 : parseFieldDescriptor (T j).2.2.1 = some .long) (hset : (eC E w).set q (a, .inr (ci, fs.set j (.long x))) = eC E (wlong w x)) (d : decode M.1 pc = .ok (.putfield i, 3)) (k : ∀ w1 : Wd, Wm E M O w1 (pc + 3) lv st (K w1)) : Wm E M O w pc lv (.long x :: .ref a :: st) (wputl w x K) := r_putG F hty hnm j hj.1 hk q he hj.2.2 hty1 rfl rfl hj.2.1 hset d (k _)
theorem r_none {τ : Type} {E : Sp} {M : Mt} {O : τ → Option Value × Wd} {w : Wd} {pc : Nat} {lv : List (Nat × Value)} {st : List Value} : Wm E M O w pc lv st none := fun _ hz => nomatch hz
def FUEL : Nat := 20000
