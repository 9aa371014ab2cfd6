/-! what goes on behind a call, kept shut until the call is done -/
def PK (sc : zX) (mt : Nat) (is : List Instr) (nb : Nat) (L : zL) (st : List Value) (Q : Option Value → zS → Prop) : Option Value → zS → Prop := fun r σ' => PW sc mt is nb L (r.toList ++ st) σ' Q
theorem PK_app {sc : zX} {mt nb : Nat} {is : List Instr} {L : zL} {st : List Value} {Q : Option Value → zS → Prop} {r : Option Value} {σ : zS} : PK sc mt is nb L st Q r σ = PW sc mt is nb L (r.toList ++ st) σ Q := rfl
section PX
variable {sc : zX} {mt nb : Nat} {is : List Instr} {L : zL} {st : List Value} {σ : zS} {Q : Option Value → zS → Prop}
theorem PX_c0 {x1 x2 x3 x4 : Value} (h : st.length ≤ 4) : PW sc mt (.invokevirtual 0 :: is) nb L (x4 :: x3 :: x2 :: x1 :: .ref 3 :: st) σ Q ↔ PC sc 0 [.ref 3, x1, x2, x3, x4] σ (PK sc mt is nb L st Q) := PW_c0 h
theorem PX_c1 {x1 x2 x3 x4 : Value} (h : st.length ≤ 4) : PW sc mt (.invokevirtual 1 :: is) nb L (x4 :: x3 :: x2 :: x1 :: .ref 3 :: st) σ Q ↔ PC sc 1 [.ref 3, x1, x2, x3, x4] σ (PK sc mt is nb L st Q) := PW_c1 h
theorem PX_c2 {x1 x2 : Value} (h : st.length ≤ 4) : PW sc mt (.invokevirtual 2 :: is) nb L (x2 :: x1 :: .ref 5 :: st) σ Q ↔ PC sc 2 [.ref 5, x1, x2] σ (PK sc mt is nb L st Q) := PW_c2 h
theorem PX_c3 {x1 x2 x3 : Value} (h : st.length ≤ 4) : PW sc mt (.invokevirtual 3 :: is) nb L (x3 :: x2 :: x1 :: .ref 5 :: st) σ Q ↔ PC sc 3 [.ref 5, x1, x2, x3] σ (PK sc mt is nb L st Q) := PW_c3 h
theorem PX_c4 {x1 x2 : Value} (h : st.length ≤ 4) : PW sc mt (.invokevirtual 4 :: is) nb L (x2 :: x1 :: .ref 5 :: st) σ Q ↔ PC sc 4 [.ref 5, x1, x2] σ (PK sc mt is nb L st Q) := PW_c4 h
theorem PX_c5 {x1 : Value} (h : st.length ≤ 4) : PW sc mt (.invokevirtual 5 :: is) nb L (x1 :: .ref 5 :: st) σ Q ↔ PC sc 5 [.ref 5, x1] σ (PK sc mt is nb L st Q) := PW_c5 h
theorem PX_c6 {x1 x2 : Value} (h : st.length ≤ 4) : PW sc mt (.invokestatic 6 :: is) nb L (x2 :: x1 :: st) σ Q ↔ PC sc 6 [x1, x2] σ (PK sc mt is nb L st Q) := PW_c6 h
theorem PX_c7 {x1 : Value} (h : st.length ≤ 4) : PW sc mt (.invokevirtual 7 :: is) nb L (x1 :: .ref 5 :: st) σ Q ↔ PC sc 7 [.ref 5, x1] σ (PK sc mt is nb L st Q) := PW_c7 h
theorem PX_c8 {x1 : Value} (h : st.length ≤ 4) : PW sc mt (.invokevirtual 8 :: is) nb L (x1 :: .ref 5 :: st) σ Q ↔ PC sc 8 [.ref 5, x1] σ (PK sc mt is nb L st Q) := PW_c8 h
theorem PX_c9 {x1 x2 x3 : Value} (h : st.length ≤ 4) : PW sc mt (.invokevirtual 9 :: is) nb L (x3 :: x2 :: x1 :: .ref 6 :: st) σ Q ↔ PC sc 9 [.ref 6, x1, x2, x3] σ (PK sc mt is nb L st Q) := PW_c9 h
theorem PX_c10 {x1 x2 x3 x4 x5 : Value} (h : st.length ≤ 4) : PW sc mt (.invokevirtual 10 :: is) nb L (x5 :: x4 :: x3 :: x2 :: x1 :: .ref 6 :: st) σ Q ↔ PC sc 10 [.ref 6, x1, x2, x3, x4, x5] σ (PK sc mt is nb L st Q) := PW_c10 h
theorem PX_c11 {x1 x2 : Value} (h : st.length ≤ 4) : PW sc mt (.invokestatic 11 :: is) nb L (x2 :: x1 :: st) σ Q ↔ PC sc 11 [x1, x2] σ (PK sc mt is nb L st Q) := PW_c11 h
theorem PX_c12 {x1 x2 : Value} (h : st.length ≤ 4) : PW sc mt (.invokevirtual 12 :: is) nb L (x2 :: x1 :: .ref 6 :: st) σ Q ↔ PC sc 12 [.ref 6, x1, x2] σ (PK sc mt is nb L st Q) := PW_c12 h
theorem PX_c13 {x1 x2 x3 : Value} (h : st.length ≤ 4) : PW sc mt (.invokevirtual 13 :: is) nb L (x3 :: x2 :: x1 :: .ref 6 :: st) σ Q ↔ PC sc 13 [.ref 6, x1, x2, x3] σ (PK sc mt is nb L st Q) := PW_c13 h
theorem PX_c14 {x1 : Value} (h : st.length ≤ 4) : PW sc mt (.invokevirtual 14 :: is) nb L (x1 :: .ref 7 :: st) σ Q ↔ PC sc 14 [.ref 7, x1] σ (PK sc mt is nb L st Q) := PW_c14 h
theorem PX_c15 {x1 : Value} (h : st.length ≤ 4) : PW sc mt (.invokevirtual 15 :: is) nb L (x1 :: .ref 7 :: st) σ Q ↔ PC sc 15 [.ref 7, x1] σ (PK sc mt is nb L st Q) := PW_c15 h
theorem PX_c16 {x1 : Value} (h : st.length ≤ 4) : PW sc mt (.invokevirtual 16 :: is) nb L (x1 :: .ref 7 :: st) σ Q ↔ PC sc 16 [.ref 7, x1] σ (PK sc mt is nb L st Q) := PW_c16 h
theorem PX_c17 {x1 x2 x3 : Value} (h : st.length ≤ 4) : PW sc mt (.invokevirtual 17 :: is) nb L (x3 :: x2 :: x1 :: .ref 7 :: st) σ Q ↔ PC sc 17 [.ref 7, x1, x2, x3] σ (PK sc mt is nb L st Q) := PW_c17 h
theorem PX_c18 {x1 : Value} (h : st.length ≤ 4) : PW sc mt (.invokevirtual 18 :: is) nb L (x1 :: .ref 8 :: st) σ Q ↔ PC sc 18 [.ref 8, x1] σ (PK sc mt is nb L st Q) := PW_c18 h
theorem PX_c19 {x1 x2 x3 : Value} (h : st.length ≤ 4) : PW sc mt (.invokevirtual 19 :: is) nb L (x3 :: x2 :: x1 :: .ref 8 :: st) σ Q ↔ PC sc 19 [.ref 8, x1, x2, x3] σ (PK sc mt is nb L st Q) := PW_c19 h
theorem PX_c20 {x1 x2 : Value} (h : st.length ≤ 4) : PW sc mt (.invokestatic 20 :: is) nb L (x2 :: x1 :: st) σ Q ↔ PC sc 20 [x1, x2] σ (PK sc mt is nb L st Q) := PW_c20 h
theorem PX_c21 {x1 x2 x3 : Value} (h : st.length ≤ 4) : PW sc mt (.invokevirtual 21 :: is) nb L (x3 :: x2 :: x1 :: .ref 8 :: st) σ Q ↔ PC sc 21 [.ref 8, x1, x2, x3] σ (PK sc mt is nb L st Q) := PW_c21 h
theorem PX_c22 {x1 x2 x3 x4 : Value} (h : st.length ≤ 4) : PW sc mt (.invokevirtual 22 :: is) nb L (x4 :: x3 :: x2 :: x1 :: .ref 8 :: st) σ Q ↔ PC sc 22 [.ref 8, x1, x2, x3, x4] σ (PK sc mt is nb L st Q) := PW_c22 h
theorem PX_c23 {x1 x2 x3 : Value} (h : st.length ≤ 4) : PW sc mt (.invokevirtual 23 :: is) nb L (x3 :: x2 :: x1 :: .ref 8 :: st) σ Q ↔ PC sc 23 [.ref 8, x1, x2, x3] σ (PK sc mt is nb L st Q) := PW_c23 h
theorem PX_c24 {x1 x2 x3 x4 : Value} (h : st.length ≤ 4) : PW sc mt (.invokevirtual 24 :: is) nb L (x4 :: x3 :: x2 :: x1 :: .ref 8 :: st) σ Q ↔ PC sc 24 [.ref 8, x1, x2, x3, x4] σ (PK sc mt is nb L st Q) := PW_c24 h
theorem PX_c25 {x1 : Value} (h : st.length ≤ 4) : PW sc mt (.invokevirtual 25 :: is) nb L (x1 :: .ref 9 :: st) σ Q ↔ PC sc 25 [.ref 9, x1] σ (PK sc mt is nb L st Q) := PW_c25 h
theorem PX_c26 {x1 x2 x3 : Value} (h : st.length ≤ 4) : PW sc mt (.invokevirtual 26 :: is) nb L (x3 :: x2 :: x1 :: .ref 9 :: st) σ Q ↔ PC sc 26 [.ref 9, x1, x2, x3] σ (PK sc mt is nb L st Q) := PW_c26 h
theorem PX_c27 {x1 x2 x3 : Value} (h : st.length ≤ 4) : PW sc mt (.invokevirtual 27 :: is) nb L (x3 :: x2 :: x1 :: .ref 9 :: st) σ Q ↔ PC sc 27 [.ref 9, x1, x2, x3] σ (PK sc mt is nb L st Q) := PW_c27 h
theorem PX_c28 {x1 x2 : Value} (h : st.length ≤ 4) : PW sc mt (.invokevirtual 28 :: is) nb L (x2 :: x1 :: .ref 9 :: st) σ Q ↔ PC sc 28 [.ref 9, x1, x2] σ (PK sc mt is nb L st Q) := PW_c28 h
theorem PX_c29 {x1 : Value} (h : st.length ≤ 4) : PW sc mt (.invokevirtual 29 :: is) nb L (x1 :: .ref 9 :: st) σ Q ↔ PC sc 29 [.ref 9, x1] σ (PK sc mt is nb L st Q) := PW_c29 h
theorem PX_c30 (h : st.length ≤ 4) : PW sc mt (.invokevirtual 30 :: is) nb L (.ref 9 :: st) σ Q ↔ PC sc 30 [.ref 9] σ (PK sc mt is nb L st Q) := PW_c30 h
theorem PX_c31 {x1 : Value} (h : st.length ≤ 4) : PW sc mt (.invokevirtual 31 :: is) nb L (x1 :: .ref 9 :: st) σ Q ↔ PC sc 31 [.ref 9, x1] σ (PK sc mt is nb L st Q) := PW_c31 h
theorem PX_c32 {x1 : Value} (h : st.length ≤ 4) : PW sc mt (.invokevirtual 32 :: is) nb L (x1 :: .ref 9 :: st) σ Q ↔ PC sc 32 [.ref 9, x1] σ (PK sc mt is nb L st Q) := PW_c32 h
theorem PX_c33 {x1 : Value} (h : st.length ≤ 4) : PW sc mt (.invokevirtual 33 :: is) nb L (x1 :: .ref 9 :: st) σ Q ↔ PC sc 33 [.ref 9, x1] σ (PK sc mt is nb L st Q) := PW_c33 h
theorem PX_c34 {x1 : Value} (h : st.length ≤ 4) : PW sc mt (.invokevirtual 34 :: is) nb L (x1 :: .ref 9 :: st) σ Q ↔ PC sc 34 [.ref 9, x1] σ (PK sc mt is nb L st Q) := PW_c34 h
theorem PX_c35 {x1 : Value} (h : st.length ≤ 4) : PW sc mt (.invokevirtual 35 :: is) nb L (x1 :: .ref 10 :: st) σ Q ↔ PC sc 35 [.ref 10, x1] σ (PK sc mt is nb L st Q) := PW_c35 h
theorem PX_c36 {x1 x2 x3 : Value} (h : st.length ≤ 4) : PW sc mt (.invokevirtual 36 :: is) nb L (x3 :: x2 :: x1 :: .ref 10 :: st) σ Q ↔ PC sc 36 [.ref 10, x1, x2, x3] σ (PK sc mt is nb L st Q) := PW_c36 h
theorem PX_c37 {x1 x2 x3 : Value} (h : st.length ≤ 4) : PW sc mt (.invokevirtual 37 :: is) nb L (x3 :: x2 :: x1 :: .ref 11 :: st) σ Q ↔ PC sc 37 [.ref 11, x1, x2, x3] σ (PK sc mt is nb L st Q) := PW_c37 h
theorem PX_c38 {x1 : Value} (h : st.length ≤ 4) : PW sc mt (.invokevirtual 38 :: is) nb L (x1 :: .ref 11 :: st) σ Q ↔ PC sc 38 [.ref 11, x1] σ (PK sc mt is nb L st Q) := PW_c38 h
theorem PX_c39 {x1 x2 x3 : Value} (h : st.length ≤ 4) : PW sc mt (.invokevirtual 39 :: is) nb L (x3 :: x2 :: x1 :: .ref 11 :: st) σ Q ↔ PC sc 39 [.ref 11, x1, x2, x3] σ (PK sc mt is nb L st Q) := PW_c39 h
theorem PX_c40 {x1 x2 x3 x4 : Value} (h : st.length ≤ 4) : PW sc mt (.invokevirtual 40 :: is) nb L (x4 :: x3 :: x2 :: x1 :: .ref 11 :: st) σ Q ↔ PC sc 40 [.ref 11, x1, x2, x3, x4] σ (PK sc mt is nb L st Q) := PW_c40 h
theorem PX_c41 {x1 x2 x3 x4 x5 : Value} (h : st.length ≤ 4) : PW sc mt (.invokevirtual 41 :: is) nb L (x5 :: x4 :: x3 :: x2 :: x1 :: .ref 11 :: st) σ Q ↔ PC sc 41 [.ref 11, x1, x2, x3, x4, x5] σ (PK sc mt is nb L st Q) := PW_c41 h
theorem PX_c42 {x1 x2 x3 : Value} (h : st.length ≤ 4) : PW sc mt (.invokevirtual 42 :: is) nb L (x3 :: x2 :: x1 :: .ref 11 :: st) σ Q ↔ PC sc 42 [.ref 11, x1, x2, x3] σ (PK sc mt is nb L st Q) := PW_c42 h
theorem PX_c43 {x1 : Value} (h : st.length ≤ 4) : PW sc mt (.invokevirtual 43 :: is) nb L (x1 :: .ref 11 :: st) σ Q ↔ PC sc 43 [.ref 11, x1] σ (PK sc mt is nb L st Q) := PW_c43 h
theorem PX_c44 {x1 : Value} (h : st.length ≤ 4) : PW sc mt (.invokevirtual 44 :: is) nb L (x1 :: .ref 11 :: st) σ Q ↔ PC sc 44 [.ref 11, x1] σ (PK sc mt is nb L st Q) := PW_c44 h
theorem PX_c45 {x1 : Value} (h : st.length ≤ 4) : PW sc mt (.invokevirtual 45 :: is) nb L (x1 :: .ref 11 :: st) σ Q ↔ PC sc 45 [.ref 11, x1] σ (PK sc mt is nb L st Q) := PW_c45 h
theorem PX_c46 (h : st.length ≤ 4) : PW sc mt (.invokevirtual 46 :: is) nb L (.ref 11 :: st) σ Q ↔ PC sc 46 [.ref 11] σ (PK sc mt is nb L st Q) := PW_c46 h
theorem PX_c47 {x1 x2 x3 x4 x5 x6 x7 : Value} (h : st.length ≤ 4) : PW sc mt (.invokevirtual 47 :: is) nb L (x7 :: x6 :: x5 :: x4 :: x3 :: x2 :: x1 :: .ref 11 :: st) σ Q ↔ PC sc 47 [.ref 11, x1, x2, x3, x4, x5, x6, x7] σ (PK sc mt is nb L st Q) := PW_c47 h
theorem PX_c48 {x1 x2 x3 x4 x5 : Value} (h : st.length ≤ 4) : PW sc mt (.invokevirtual 48 :: is) nb L (x5 :: x4 :: x3 :: x2 :: x1 :: .ref 11 :: st) σ Q ↔ PC sc 48 [.ref 11, x1, x2, x3, x4, x5] σ (PK sc mt is nb L st Q) := PW_c48 h
theorem PX_c49 {x1 x2 x3 x4 x5 : Value} (h : st.length ≤ 4) : PW sc mt (.invokevirtual 49 :: is) nb L (x5 :: x4 :: x3 :: x2 :: x1 :: .ref 11 :: st) σ Q ↔ PC sc 49 [.ref 11, x1, x2, x3, x4, x5] σ (PK sc mt is nb L st Q) := PW_c49 h
theorem PX_c50 {x1 x2 x3 : Value} (h : st.length ≤ 4) : PW sc mt (.invokevirtual 50 :: is) nb L (x3 :: x2 :: x1 :: .ref 11 :: st) σ Q ↔ PC sc 50 [.ref 11, x1, x2, x3] σ (PK sc mt is nb L st Q) := PW_c50 h
theorem PX_c51 {x1 x2 : Value} (h : st.length ≤ 4) : PW sc mt (.invokevirtual 51 :: is) nb L (x2 :: x1 :: .ref 11 :: st) σ Q ↔ PC sc 51 [.ref 11, x1, x2] σ (PK sc mt is nb L st Q) := PW_c51 h
theorem PX_c52 {x1 x2 : Value} (h : st.length ≤ 4) : PW sc mt (.invokevirtual 52 :: is) nb L (x2 :: x1 :: .ref 11 :: st) σ Q ↔ PC sc 52 [.ref 11, x1, x2] σ (PK sc mt is nb L st Q) := PW_c52 h
theorem PX_c53 {x1 x2 x3 : Value} (h : st.length ≤ 4) : PW sc mt (.invokevirtual 53 :: is) nb L (x3 :: x2 :: x1 :: .ref 11 :: st) σ Q ↔ PC sc 53 [.ref 11, x1, x2, x3] σ (PK sc mt is nb L st Q) := PW_c53 h
theorem PX_c54 {x1 x2 x3 : Value} (h : st.length ≤ 4) : PW sc mt (.invokevirtual 54 :: is) nb L (x3 :: x2 :: x1 :: .ref 11 :: st) σ Q ↔ PC sc 54 [.ref 11, x1, x2, x3] σ (PK sc mt is nb L st Q) := PW_c54 h
theorem PX_c55 {x1 x2 x3 : Value} (h : st.length ≤ 4) : PW sc mt (.invokestatic 55 :: is) nb L (x3 :: x2 :: x1 :: st) σ Q ↔ PC sc 55 [x1, x2, x3] σ (PK sc mt is nb L st Q) := PW_c55 h
theorem PX_c56 {x1 : Value} (h : st.length ≤ 4) : PW sc mt (.invokestatic 56 :: is) nb L (x1 :: st) σ Q ↔ PC sc 56 [x1] σ (PK sc mt is nb L st Q) := PW_c56 h
theorem PX_c57 {x1 : Value} (h : st.length ≤ 4) : PW sc mt (.invokevirtual 57 :: is) nb L (x1 :: .ref 11 :: st) σ Q ↔ PC sc 57 [.ref 11, x1] σ (PK sc mt is nb L st Q) := PW_c57 h
theorem PX_c58 {x1 x2 : Value} (h : st.length ≤ 4) : PW sc mt (.invokevirtual 58 :: is) nb L (x2 :: x1 :: .ref 11 :: st) σ Q ↔ PC sc 58 [.ref 11, x1, x2] σ (PK sc mt is nb L st Q) := PW_c58 h
theorem PX_c59 {x1 : Value} (h : st.length ≤ 4) : PW sc mt (.invokestatic 59 :: is) nb L (x1 :: st) σ Q ↔ PC sc 59 [x1] σ (PK sc mt is nb L st Q) := PW_c59 h
theorem PX_c60 {x1 x2 : Value} (h : st.length ≤ 4) : PW sc mt (.invokestatic 60 :: is) nb L (x2 :: x1 :: st) σ Q ↔ PC sc 60 [x1, x2] σ (PK sc mt is nb L st Q) := PW_c60 h
theorem PX_c61 {x1 x2 : Value} (h : st.length ≤ 4) : PW sc mt (.invokestatic 61 :: is) nb L (x2 :: x1 :: st) σ Q ↔ PC sc 61 [x1, x2] σ (PK sc mt is nb L st Q) := PW_c61 h
theorem PX_c62 {x1 x2 : Value} (h : st.length ≤ 4) : PW sc mt (.invokestatic 62 :: is) nb L (x2 :: x1 :: st) σ Q ↔ PC sc 62 [x1, x2] σ (PK sc mt is nb L st Q) := PW_c62 h
theorem PW_sld {i : Int32} : PW sc mt (.iaload :: is) nb L (.int i :: .ref 134 :: st) σ Q ↔ vp_in i sc.1 ∧ PW sc mt is nb L (.int (sc.2.1 i.toNatClampNeg) :: st) σ Q := by
  by_cases hi : i < 0 ∨ sc.1 ≤ i.toNatClampNeg
  · rw [PW_no rfl rfl (by simp [zst, zo_iald, zin, hi]) rfl]
    simp [vp_in, hi]
  · rw [PW_st (L' := L) (st' := .int (sc.2.1 i.toNatClampNeg) :: st) (σ' := σ) rfl rfl (by simp [zst, zo_iald, zin, hi])]
    simp [vp_in, hi]
theorem PW_slen : PW sc mt (.arraylength :: is) nb L (.ref 134 :: st) σ Q ↔ PW sc mt is nb L (.int (nI sc.1) :: st) σ Q := PW_st rfl rfl (by simp [zst, zo_alen]; rfl)
end PX
