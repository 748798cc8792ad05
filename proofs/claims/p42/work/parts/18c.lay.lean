def cS (r : Nat) : mC := (105, 15, [(0, 0), (0, 0), (2, r + 1), (2, r + 2), (2, r + 3), (2, r + 4), (2, r + 5), (2, r + 6), (2, r + 7), (2, r + 8), (2, r + 9), (2, r + 10), (2, r + 11), (2, r + 12), (2, r + 13)])
theorem tg_cS {r : Nat} : tg (some (cS r)) = 105 := rfl
theorem fk_cS_0 {r : Nat} : fk (some (cS r)) 0 = 0 := rfl
theorem fk_cS_1 {r : Nat} : fk (some (cS r)) 1 = 0 := rfl
theorem fk_cS_2 {r : Nat} : fk (some (cS r)) 2 = 2 := rfl
theorem fq_cS_2 {r : Nat} : fq (some (cS r)) 2 = r + 1 := rfl
theorem fk_cS_3 {r : Nat} : fk (some (cS r)) 3 = 2 := rfl
theorem fq_cS_3 {r : Nat} : fq (some (cS r)) 3 = r + 2 := rfl
theorem fk_cS_4 {r : Nat} : fk (some (cS r)) 4 = 2 := rfl
theorem fq_cS_4 {r : Nat} : fq (some (cS r)) 4 = r + 3 := rfl
theorem fk_cS_5 {r : Nat} : fk (some (cS r)) 5 = 2 := rfl
theorem fq_cS_5 {r : Nat} : fq (some (cS r)) 5 = r + 4 := rfl
theorem fk_cS_6 {r : Nat} : fk (some (cS r)) 6 = 2 := rfl
theorem fq_cS_6 {r : Nat} : fq (some (cS r)) 6 = r + 5 := rfl
theorem fk_cS_7 {r : Nat} : fk (some (cS r)) 7 = 2 := rfl
theorem fq_cS_7 {r : Nat} : fq (some (cS r)) 7 = r + 6 := rfl
theorem fk_cS_8 {r : Nat} : fk (some (cS r)) 8 = 2 := rfl
theorem fq_cS_8 {r : Nat} : fq (some (cS r)) 8 = r + 7 := rfl
theorem fk_cS_9 {r : Nat} : fk (some (cS r)) 9 = 2 := rfl
theorem fq_cS_9 {r : Nat} : fq (some (cS r)) 9 = r + 8 := rfl
theorem fk_cS_10 {r : Nat} : fk (some (cS r)) 10 = 2 := rfl
theorem fq_cS_10 {r : Nat} : fq (some (cS r)) 10 = r + 9 := rfl
theorem fk_cS_11 {r : Nat} : fk (some (cS r)) 11 = 2 := rfl
theorem fq_cS_11 {r : Nat} : fq (some (cS r)) 11 = r + 10 := rfl
theorem fk_cS_12 {r : Nat} : fk (some (cS r)) 12 = 2 := rfl
theorem fq_cS_12 {r : Nat} : fq (some (cS r)) 12 = r + 11 := rfl
theorem fk_cS_13 {r : Nat} : fk (some (cS r)) 13 = 2 := rfl
theorem fq_cS_13 {r : Nat} : fq (some (cS r)) 13 = r + 12 := rfl
theorem fk_cS_14 {r : Nat} : fk (some (cS r)) 14 = 2 := rfl
theorem fq_cS_14 {r : Nat} : fq (some (cS r)) 14 = r + 13 := rfl
/-- a S lies at r -/
def isS (w : mT) (r : Nat) : Prop := mL w r = some (cS r) ∧ mL w (r + 1) = some (0, 12, []) ∧ mL w (r + 2) = some (0, 3, []) ∧ mL w (r + 3) = some (0, 180, []) ∧ mL w (r + 4) = some (0, 2160, []) ∧ mL w (r + 5) = some (0, 8, []) ∧ mL w (r + 6) = some (0, 8, []) ∧ mL w (r + 7) = some (0, 8, []) ∧ mL w (r + 8) = some (0, 2, []) ∧ mL w (r + 9) = some (0, 2, []) ∧ mL w (r + 10) = some (0, 2, []) ∧ mL w (r + 11) = some (0, 2, []) ∧ mL w (r + 12) = some (0, 2, []) ∧ mL w (r + 13) = some (0, 96, [])
def cT (r : Nat) : mC := (106, 14, [(0, 0), (0, 0), (0, 0), (0, 0), (0, 0), (2, r + 1), (2, r + 2), (2, r + 3), (2, r + 4), (2, r + 5), (2, r + 6), (2, r + 7), (2, r + 8), (2, r + 9)])
theorem tg_cT {r : Nat} : tg (some (cT r)) = 106 := rfl
theorem fk_cT_0 {r : Nat} : fk (some (cT r)) 0 = 0 := rfl
theorem fk_cT_1 {r : Nat} : fk (some (cT r)) 1 = 0 := rfl
theorem fk_cT_2 {r : Nat} : fk (some (cT r)) 2 = 0 := rfl
theorem fk_cT_3 {r : Nat} : fk (some (cT r)) 3 = 0 := rfl
theorem fk_cT_4 {r : Nat} : fk (some (cT r)) 4 = 0 := rfl
theorem fk_cT_5 {r : Nat} : fk (some (cT r)) 5 = 2 := rfl
theorem fq_cT_5 {r : Nat} : fq (some (cT r)) 5 = r + 1 := rfl
theorem fk_cT_6 {r : Nat} : fk (some (cT r)) 6 = 2 := rfl
theorem fq_cT_6 {r : Nat} : fq (some (cT r)) 6 = r + 2 := rfl
theorem fk_cT_7 {r : Nat} : fk (some (cT r)) 7 = 2 := rfl
theorem fq_cT_7 {r : Nat} : fq (some (cT r)) 7 = r + 3 := rfl
theorem fk_cT_8 {r : Nat} : fk (some (cT r)) 8 = 2 := rfl
theorem fq_cT_8 {r : Nat} : fq (some (cT r)) 8 = r + 4 := rfl
theorem fk_cT_9 {r : Nat} : fk (some (cT r)) 9 = 2 := rfl
theorem fq_cT_9 {r : Nat} : fq (some (cT r)) 9 = r + 5 := rfl
theorem fk_cT_10 {r : Nat} : fk (some (cT r)) 10 = 2 := rfl
theorem fq_cT_10 {r : Nat} : fq (some (cT r)) 10 = r + 6 := rfl
theorem fk_cT_11 {r : Nat} : fk (some (cT r)) 11 = 2 := rfl
theorem fq_cT_11 {r : Nat} : fq (some (cT r)) 11 = r + 7 := rfl
theorem fk_cT_12 {r : Nat} : fk (some (cT r)) 12 = 2 := rfl
theorem fq_cT_12 {r : Nat} : fq (some (cT r)) 12 = r + 8 := rfl
theorem fk_cT_13 {r : Nat} : fk (some (cT r)) 13 = 2 := rfl
theorem fq_cT_13 {r : Nat} : fq (some (cT r)) 13 = r + 9 := rfl
/-- a T lies at r -/
def isT (w : mT) (r : Nat) : Prop := mL w r = some (cT r) ∧ mL w (r + 1) = some (0, 12, []) ∧ mL w (r + 2) = some (0, 12, []) ∧ mL w (r + 3) = some (0, 3, []) ∧ mL w (r + 4) = some (0, 8, []) ∧ mL w (r + 5) = some (0, 8, []) ∧ mL w (r + 6) = some (0, 8, []) ∧ mL w (r + 7) = some (0, 8, []) ∧ mL w (r + 8) = some (0, 8, []) ∧ mL w (r + 9) = some (0, 8, [])
def cG (r : Nat) : mC := (103, 10, [(3, 0), (0, 0), (0, 0), (0, 0), (0, 0), (0, 0), (0, 0), (3, 0), (2, r + 12), (0, 0)])
theorem tg_cG {r : Nat} : tg (some (cG r)) = 103 := rfl
theorem fk_cG_0 {r : Nat} : fk (some (cG r)) 0 = 3 := rfl
theorem fk_cG_1 {r : Nat} : fk (some (cG r)) 1 = 0 := rfl
theorem fk_cG_2 {r : Nat} : fk (some (cG r)) 2 = 0 := rfl
theorem fk_cG_3 {r : Nat} : fk (some (cG r)) 3 = 0 := rfl
theorem fk_cG_4 {r : Nat} : fk (some (cG r)) 4 = 0 := rfl
theorem fk_cG_5 {r : Nat} : fk (some (cG r)) 5 = 0 := rfl
theorem fk_cG_6 {r : Nat} : fk (some (cG r)) 6 = 0 := rfl
theorem fk_cG_7 {r : Nat} : fk (some (cG r)) 7 = 3 := rfl
theorem fk_cG_8 {r : Nat} : fk (some (cG r)) 8 = 2 := rfl
theorem fq_cG_8 {r : Nat} : fq (some (cG r)) 8 = r + 12 := rfl
theorem fk_cG_9 {r : Nat} : fk (some (cG r)) 9 = 0 := rfl
/-- a G lies at r -/
def isG (w : mT) (r : Nat) : Prop := mL w r = some (cG r) ∧ mL w (r + 1) = some (0, 0, []) ∧ mL w (r + 12) = some (0, 23, []) ∧ True
def cH (r : Nat) : mC := (101, 5, [(2, r + 1), (0, 0), (0, 0), (2, r + 2), (2, r + 3)])
theorem tg_cH {r : Nat} : tg (some (cH r)) = 101 := rfl
theorem fk_cH_0 {r : Nat} : fk (some (cH r)) 0 = 2 := rfl
theorem fq_cH_0 {r : Nat} : fq (some (cH r)) 0 = r + 1 := rfl
theorem fk_cH_1 {r : Nat} : fk (some (cH r)) 1 = 0 := rfl
theorem fk_cH_2 {r : Nat} : fk (some (cH r)) 2 = 0 := rfl
theorem fk_cH_3 {r : Nat} : fk (some (cH r)) 3 = 2 := rfl
theorem fq_cH_3 {r : Nat} : fq (some (cH r)) 3 = r + 2 := rfl
theorem fk_cH_4 {r : Nat} : fk (some (cH r)) 4 = 2 := rfl
theorem fq_cH_4 {r : Nat} : fq (some (cH r)) 4 = r + 3 := rfl
/-- a H lies at r -/
def isH (w : mT) (r : Nat) : Prop := mL w r = some (cH r) ∧ mL w (r + 1) = some (4, 12, []) ∧ mL w (r + 2) = some (4, 2, []) ∧ mL w (r + 3) = some (3, 2, [])
def cP (r : Nat) : mC := (102, 6, [(0, 0), (0, 0), (2, r + 1), (2, r + 2), (2, r + 3), (2, r + 4)])
theorem tg_cP {r : Nat} : tg (some (cP r)) = 102 := rfl
theorem fk_cP_0 {r : Nat} : fk (some (cP r)) 0 = 0 := rfl
theorem fk_cP_1 {r : Nat} : fk (some (cP r)) 1 = 0 := rfl
theorem fk_cP_2 {r : Nat} : fk (some (cP r)) 2 = 2 := rfl
theorem fq_cP_2 {r : Nat} : fq (some (cP r)) 2 = r + 1 := rfl
theorem fk_cP_3 {r : Nat} : fk (some (cP r)) 3 = 2 := rfl
theorem fq_cP_3 {r : Nat} : fq (some (cP r)) 3 = r + 2 := rfl
theorem fk_cP_4 {r : Nat} : fk (some (cP r)) 4 = 2 := rfl
theorem fq_cP_4 {r : Nat} : fq (some (cP r)) 4 = r + 3 := rfl
theorem fk_cP_5 {r : Nat} : fk (some (cP r)) 5 = 2 := rfl
theorem fq_cP_5 {r : Nat} : fq (some (cP r)) 5 = r + 4 := rfl
/-- a P lies at r -/
def isP (w : mT) (r : Nat) : Prop := mL w r = some (cP r) ∧ mL w (r + 1) = some (0, 8, []) ∧ mL w (r + 2) = some (0, 8, []) ∧ mL w (r + 3) = some (0, 8, []) ∧ mL w (r + 4) = some (3, 8, [])
def cB (r : Nat) : mC := (100, 7, [(0, 0), (2, r + 1), (1, 0), (1, 0), (2, r + 2), (2, r + 3), (2, r + 4)])
theorem tg_cB {r : Nat} : tg (some (cB r)) = 100 := rfl
theorem fk_cB_0 {r : Nat} : fk (some (cB r)) 0 = 0 := rfl
theorem fk_cB_1 {r : Nat} : fk (some (cB r)) 1 = 2 := rfl
theorem fq_cB_1 {r : Nat} : fq (some (cB r)) 1 = r + 1 := rfl
theorem fk_cB_2 {r : Nat} : fk (some (cB r)) 2 = 1 := rfl
theorem fk_cB_3 {r : Nat} : fk (some (cB r)) 3 = 1 := rfl
theorem fk_cB_4 {r : Nat} : fk (some (cB r)) 4 = 2 := rfl
theorem fq_cB_4 {r : Nat} : fq (some (cB r)) 4 = r + 2 := rfl
theorem fk_cB_5 {r : Nat} : fk (some (cB r)) 5 = 2 := rfl
theorem fq_cB_5 {r : Nat} : fq (some (cB r)) 5 = r + 3 := rfl
theorem fk_cB_6 {r : Nat} : fk (some (cB r)) 6 = 2 := rfl
theorem fq_cB_6 {r : Nat} : fq (some (cB r)) 6 = r + 4 := rfl
/-- a B lies at r -/
def isB (w : mT) (r : Nat) : Prop := mL w r = some (cB r) ∧ mL w (r + 1) = some (0, 6, []) ∧ mL w (r + 2) = some (0, 6, []) ∧ mL w (r + 3) = some (1, 64, []) ∧ mL w (r + 4) = some (1, 64, [])
def cR (r : Nat) : mC := (104, 9, [(0, 0), (0, 0), (0, 0), (2, r + 1), (2, r + 2), (2, r + 3), (0, 0), (0, 0), (0, 0)])
theorem tg_cR {r : Nat} : tg (some (cR r)) = 104 := rfl
theorem fk_cR_0 {r : Nat} : fk (some (cR r)) 0 = 0 := rfl
theorem fk_cR_1 {r : Nat} : fk (some (cR r)) 1 = 0 := rfl
theorem fk_cR_2 {r : Nat} : fk (some (cR r)) 2 = 0 := rfl
theorem fk_cR_3 {r : Nat} : fk (some (cR r)) 3 = 2 := rfl
theorem fq_cR_3 {r : Nat} : fq (some (cR r)) 3 = r + 1 := rfl
theorem fk_cR_4 {r : Nat} : fk (some (cR r)) 4 = 2 := rfl
theorem fq_cR_4 {r : Nat} : fq (some (cR r)) 4 = r + 2 := rfl
theorem fk_cR_5 {r : Nat} : fk (some (cR r)) 5 = 2 := rfl
theorem fq_cR_5 {r : Nat} : fq (some (cR r)) 5 = r + 3 := rfl
theorem fk_cR_6 {r : Nat} : fk (some (cR r)) 6 = 0 := rfl
theorem fk_cR_7 {r : Nat} : fk (some (cR r)) 7 = 0 := rfl
theorem fk_cR_8 {r : Nat} : fk (some (cR r)) 8 = 0 := rfl
/-- a R lies at r -/
def isR (w : mT) (r : Nat) : Prop := mL w r = some (cR r) ∧ mL w (r + 1) = some (0, 12, []) ∧ mL w (r + 2) = some (0, 12, []) ∧ mL w (r + 3) = some (0, 12, [])
def cX (r : Nat) : mC := (107, 14, [(2, r + 1), (0, 0), (2, r + 2), (3, 0), (3, 0), (2, r + 35), (2, r + 49), (2, r + 63), (2, r + 67), (2, r + 72), (2, r + 77), (0, 0), (1, 0), (1, 0)])
theorem tg_cX {r : Nat} : tg (some (cX r)) = 107 := rfl
theorem fk_cX_0 {r : Nat} : fk (some (cX r)) 0 = 2 := rfl
theorem fq_cX_0 {r : Nat} : fq (some (cX r)) 0 = r + 1 := rfl
theorem fk_cX_1 {r : Nat} : fk (some (cX r)) 1 = 0 := rfl
theorem fk_cX_2 {r : Nat} : fk (some (cX r)) 2 = 2 := rfl
theorem fq_cX_2 {r : Nat} : fq (some (cX r)) 2 = r + 2 := rfl
theorem fk_cX_3 {r : Nat} : fk (some (cX r)) 3 = 3 := rfl
theorem fk_cX_4 {r : Nat} : fk (some (cX r)) 4 = 3 := rfl
theorem fk_cX_5 {r : Nat} : fk (some (cX r)) 5 = 2 := rfl
theorem fq_cX_5 {r : Nat} : fq (some (cX r)) 5 = r + 35 := rfl
theorem fk_cX_6 {r : Nat} : fk (some (cX r)) 6 = 2 := rfl
theorem fq_cX_6 {r : Nat} : fq (some (cX r)) 6 = r + 49 := rfl
theorem fk_cX_7 {r : Nat} : fk (some (cX r)) 7 = 2 := rfl
theorem fq_cX_7 {r : Nat} : fq (some (cX r)) 7 = r + 63 := rfl
theorem fk_cX_8 {r : Nat} : fk (some (cX r)) 8 = 2 := rfl
theorem fq_cX_8 {r : Nat} : fq (some (cX r)) 8 = r + 67 := rfl
theorem fk_cX_9 {r : Nat} : fk (some (cX r)) 9 = 2 := rfl
theorem fq_cX_9 {r : Nat} : fq (some (cX r)) 9 = r + 72 := rfl
theorem fk_cX_10 {r : Nat} : fk (some (cX r)) 10 = 2 := rfl
theorem fq_cX_10 {r : Nat} : fq (some (cX r)) 10 = r + 77 := rfl
theorem fk_cX_11 {r : Nat} : fk (some (cX r)) 11 = 0 := rfl
theorem fk_cX_12 {r : Nat} : fk (some (cX r)) 12 = 1 := rfl
theorem fk_cX_13 {r : Nat} : fk (some (cX r)) 13 = 1 := rfl
/-- a X lies at r -/
def isX (w : mT) (r : Nat) : Prop := mL w r = some (cX r) ∧ mL w (r + 1) = some (0, 600, [])
def cM (r : Nat) : mC := (108, 43, [(0, 0), (2, r + 1), (0, 0), (0, 0), (0, 0), (0, 0), (0, 0), (0, 0), (0, 0), (0, 0), (0, 0), (2, r + 2), (2, r + 3), (0, 0), (0, 0), (2, r + 4), (0, 0), (0, 0), (0, 0), (2, r + 5), (2, r + 6), (2, r + 7), (2, r + 8), (0, 0), (1, 0), (1, 0), (0, 0), (0, 0), (2, r + 9), (2, r + 10), (2, r + 11), (1, 0), (1, 0), (2, r + 12), (2, r + 13), (0, 0), (0, 0), (0, 0), (2, r + 14), (2, r + 15), (2, r + 16), (0, 0), (0, 0)])
theorem tg_cM {r : Nat} : tg (some (cM r)) = 108 := rfl
theorem fk_cM_0 {r : Nat} : fk (some (cM r)) 0 = 0 := rfl
theorem fk_cM_1 {r : Nat} : fk (some (cM r)) 1 = 2 := rfl
theorem fq_cM_1 {r : Nat} : fq (some (cM r)) 1 = r + 1 := rfl
theorem fk_cM_2 {r : Nat} : fk (some (cM r)) 2 = 0 := rfl
theorem fk_cM_3 {r : Nat} : fk (some (cM r)) 3 = 0 := rfl
theorem fk_cM_4 {r : Nat} : fk (some (cM r)) 4 = 0 := rfl
theorem fk_cM_5 {r : Nat} : fk (some (cM r)) 5 = 0 := rfl
theorem fk_cM_6 {r : Nat} : fk (some (cM r)) 6 = 0 := rfl
theorem fk_cM_7 {r : Nat} : fk (some (cM r)) 7 = 0 := rfl
theorem fk_cM_8 {r : Nat} : fk (some (cM r)) 8 = 0 := rfl
theorem fk_cM_9 {r : Nat} : fk (some (cM r)) 9 = 0 := rfl
theorem fk_cM_10 {r : Nat} : fk (some (cM r)) 10 = 0 := rfl
theorem fk_cM_11 {r : Nat} : fk (some (cM r)) 11 = 2 := rfl
theorem fq_cM_11 {r : Nat} : fq (some (cM r)) 11 = r + 2 := rfl
theorem fk_cM_12 {r : Nat} : fk (some (cM r)) 12 = 2 := rfl
theorem fq_cM_12 {r : Nat} : fq (some (cM r)) 12 = r + 3 := rfl
theorem fk_cM_13 {r : Nat} : fk (some (cM r)) 13 = 0 := rfl
theorem fk_cM_14 {r : Nat} : fk (some (cM r)) 14 = 0 := rfl
theorem fk_cM_15 {r : Nat} : fk (some (cM r)) 15 = 2 := rfl
theorem fq_cM_15 {r : Nat} : fq (some (cM r)) 15 = r + 4 := rfl
theorem fk_cM_16 {r : Nat} : fk (some (cM r)) 16 = 0 := rfl
theorem fk_cM_17 {r : Nat} : fk (some (cM r)) 17 = 0 := rfl
theorem fk_cM_18 {r : Nat} : fk (some (cM r)) 18 = 0 := rfl
theorem fk_cM_19 {r : Nat} : fk (some (cM r)) 19 = 2 := rfl
theorem fq_cM_19 {r : Nat} : fq (some (cM r)) 19 = r + 5 := rfl
theorem fk_cM_20 {r : Nat} : fk (some (cM r)) 20 = 2 := rfl
theorem fq_cM_20 {r : Nat} : fq (some (cM r)) 20 = r + 6 := rfl
theorem fk_cM_21 {r : Nat} : fk (some (cM r)) 21 = 2 := rfl
theorem fq_cM_21 {r : Nat} : fq (some (cM r)) 21 = r + 7 := rfl
theorem fk_cM_22 {r : Nat} : fk (some (cM r)) 22 = 2 := rfl
theorem fq_cM_22 {r : Nat} : fq (some (cM r)) 22 = r + 8 := rfl
theorem fk_cM_23 {r : Nat} : fk (some (cM r)) 23 = 0 := rfl
theorem fk_cM_24 {r : Nat} : fk (some (cM r)) 24 = 1 := rfl
theorem fk_cM_25 {r : Nat} : fk (some (cM r)) 25 = 1 := rfl
theorem fk_cM_26 {r : Nat} : fk (some (cM r)) 26 = 0 := rfl
theorem fk_cM_27 {r : Nat} : fk (some (cM r)) 27 = 0 := rfl
theorem fk_cM_28 {r : Nat} : fk (some (cM r)) 28 = 2 := rfl
theorem fq_cM_28 {r : Nat} : fq (some (cM r)) 28 = r + 9 := rfl
theorem fk_cM_29 {r : Nat} : fk (some (cM r)) 29 = 2 := rfl
theorem fq_cM_29 {r : Nat} : fq (some (cM r)) 29 = r + 10 := rfl
theorem fk_cM_30 {r : Nat} : fk (some (cM r)) 30 = 2 := rfl
theorem fq_cM_30 {r : Nat} : fq (some (cM r)) 30 = r + 11 := rfl
theorem fk_cM_31 {r : Nat} : fk (some (cM r)) 31 = 1 := rfl
theorem fk_cM_32 {r : Nat} : fk (some (cM r)) 32 = 1 := rfl
theorem fk_cM_33 {r : Nat} : fk (some (cM r)) 33 = 2 := rfl
theorem fq_cM_33 {r : Nat} : fq (some (cM r)) 33 = r + 12 := rfl
theorem fk_cM_34 {r : Nat} : fk (some (cM r)) 34 = 2 := rfl
theorem fq_cM_34 {r : Nat} : fq (some (cM r)) 34 = r + 13 := rfl
theorem fk_cM_35 {r : Nat} : fk (some (cM r)) 35 = 0 := rfl
theorem fk_cM_36 {r : Nat} : fk (some (cM r)) 36 = 0 := rfl
theorem fk_cM_37 {r : Nat} : fk (some (cM r)) 37 = 0 := rfl
theorem fk_cM_38 {r : Nat} : fk (some (cM r)) 38 = 2 := rfl
theorem fq_cM_38 {r : Nat} : fq (some (cM r)) 38 = r + 14 := rfl
theorem fk_cM_39 {r : Nat} : fk (some (cM r)) 39 = 2 := rfl
theorem fq_cM_39 {r : Nat} : fq (some (cM r)) 39 = r + 15 := rfl
theorem fk_cM_40 {r : Nat} : fk (some (cM r)) 40 = 2 := rfl
theorem fq_cM_40 {r : Nat} : fq (some (cM r)) 40 = r + 16 := rfl
theorem fk_cM_41 {r : Nat} : fk (some (cM r)) 41 = 0 := rfl
theorem fk_cM_42 {r : Nat} : fk (some (cM r)) 42 = 0 := rfl
/-- a M lies at r -/
def isM (w : mT) (r : Nat) : Prop := mL w r = some (cM r) ∧ mL w (r + 1) = some (2, 600, []) ∧ mL w (r + 2) = some (0, 102, []) ∧ mL w (r + 3) = some (0, 102, []) ∧ mL w (r + 4) = some (0, 2471, []) ∧ mL w (r + 5) = some (0, 29652, []) ∧ mL w (r + 6) = some (3, 2, []) ∧ mL w (r + 7) = some (0, 4942, []) ∧ mL w (r + 8) = some (0, 2471, []) ∧ mL w (r + 9) = some (0, 6, []) ∧ mL w (r + 10) = some (0, 6, []) ∧ mL w (r + 11) = some (0, 6, []) ∧ mL w (r + 12) = some (0, 12, []) ∧ mL w (r + 13) = some (0, 12, []) ∧ mL w (r + 14) = some (3, 8, []) ∧ mL w (r + 15) = some (3, 8, []) ∧ mL w (r + 16) = some (0, 8, [])
theorem mr_0 : MR 0 = none := rfl
theorem mr_1 : MR 1 = some .boolean := rfl
theorem mr_2 : MR 2 = none := rfl
theorem mr_3 : MR 3 = some .int := rfl
theorem mr_4 : MR 4 = some .boolean := rfl
theorem mr_5 : MR 5 = none := rfl
theorem mr_6 : MR 6 = none := rfl
theorem mr_7 : MR 7 = some .int := rfl
theorem mr_8 : MR 8 = none := rfl
theorem mr_9 : MR 9 = none := rfl
theorem mr_10 : MR 10 = some .int := rfl
theorem mr_11 : MR 11 = none := rfl
theorem mr_12 : MR 12 = some .boolean := rfl
theorem mr_13 : MR 13 = some .boolean := rfl
theorem mr_14 : MR 14 = some .boolean := rfl
theorem mr_15 : MR 15 = none := rfl
theorem mr_16 : MR 16 = none := rfl
theorem mr_17 : MR 17 = none := rfl
theorem mr_18 : MR 18 = some .int := rfl
theorem mr_19 : MR 19 = none := rfl
theorem mr_20 : MR 20 = some .boolean := rfl
theorem mr_21 : MR 21 = some .boolean := rfl
theorem mr_22 : MR 22 = some .boolean := rfl
theorem mr_23 : MR 23 = some .boolean := rfl
theorem mr_24 : MR 24 = none := rfl
theorem mr_25 : MR 25 = none := rfl
theorem mr_26 : MR 26 = none := rfl
theorem mr_27 : MR 27 = some .int := rfl
theorem mr_28 : MR 28 = none := rfl
theorem mr_29 : MR 29 = none := rfl
theorem mr_30 : MR 30 = none := rfl
theorem mr_31 : MR 31 = none := rfl
theorem mr_32 : MR 32 = none := rfl
theorem mr_33 : MR 33 = none := rfl
theorem mr_34 : MR 34 = some .int := rfl
theorem mr_35 : MR 35 = some .int := rfl
theorem mr_36 : MR 36 = none := rfl
theorem mr_37 : MR 37 = some .boolean := rfl
theorem mr_38 : MR 38 = some .boolean := rfl
theorem mr_39 : MR 39 = none := rfl
theorem mr_40 : MR 40 = some .boolean := rfl
theorem mr_41 : MR 41 = some .boolean := rfl
theorem mr_42 : MR 42 = none := rfl
theorem mr_43 : MR 43 = some .boolean := rfl
theorem mr_44 : MR 44 = some .int := rfl
theorem mr_45 : MR 45 = none := rfl
theorem mr_46 : MR 46 = some .boolean := rfl
theorem mr_47 : MR 47 = none := rfl
theorem mr_48 : MR 48 = none := rfl
theorem mr_49 : MR 49 = none := rfl
theorem mr_50 : MR 50 = some .int := rfl
theorem mr_51 : MR 51 = some .int := rfl
theorem mr_52 : MR 52 = some .int := rfl
theorem mr_53 : MR 53 = some .int := rfl
theorem mr_54 : MR 54 = none := rfl
theorem mr_55 : MR 55 = some .boolean := rfl
theorem mr_56 : MR 56 = some .int := rfl
theorem mr_57 : MR 57 = some .int := rfl
theorem mr_58 : MR 58 = some .int := rfl
theorem mr_59 : MR 59 = some .int := rfl
theorem mr_60 : MR 60 = some .int := rfl
theorem mr_61 : MR 61 = none := rfl
theorem mr_62 : MR 62 = some .boolean := rfl
theorem mr_63 : MR 63 = some .int := rfl
theorem mr_64 : MR 64 = some .boolean := rfl
theorem mr_65 : MR 65 = some .int := rfl
theorem mr_66 : MR 66 = none := rfl
theorem mr_67 : MR 67 = none := rfl
theorem mr_68 : MR 68 = none := rfl
theorem mr_69 : MR 69 = none := rfl
theorem mr_70 : MR 70 = some .boolean := rfl
theorem mr_71 : MR 71 = some .boolean := rfl
theorem mr_72 : MR 72 = some .boolean := rfl
theorem mr_73 : MR 73 = some .boolean := rfl
theorem mr_74 : MR 74 = some .boolean := rfl
theorem mr_75 : MR 75 = none := rfl
theorem mr_76 : MR 76 = some .int := rfl
theorem mr_77 : MR 77 = some .int := rfl
theorem mr_78 : MR 78 = some .int := rfl
theorem mr_79 : MR 79 = some .int := rfl
theorem mr_80 : MR 80 = some .int := rfl
theorem mr_81 : MR 81 = some .int := rfl
theorem mr_82 : MR 82 = some .int := rfl
theorem mr_83 : MR 83 = some .int := rfl
theorem mr_84 : MR 84 = some .int := rfl
theorem mr_85 : MR 85 = some .int := rfl
theorem mr_86 : MR 86 = some .int := rfl
theorem mr_87 : MR 87 = some .int := rfl
theorem mr_88 : MR 88 = some .int := rfl
theorem mr_89 : MR 89 = some .int := rfl
theorem mr_90 : MR 90 = some .boolean := rfl
theorem mr_91 : MR 91 = some .int := rfl
theorem mr_92 : MR 92 = some .int := rfl
theorem mr_93 : MR 93 = some .int := rfl
theorem mr_94 : MR 94 = some .int := rfl
theorem mr_95 : MR 95 = some .int := rfl
theorem mr_96 : MR 96 = some .int := rfl
theorem mr_97 : MR 97 = some .int := rfl
theorem mr_98 : MR 98 = some .int := rfl
theorem mr_99 : MR 99 = some .boolean := rfl
theorem mr_100 : MR 100 = some .int := rfl
theorem mr_101 : MR 101 = some .int := rfl
theorem mr_102 : MR 102 = some .int := rfl
theorem mr_103 : MR 103 = some .int := rfl
theorem mr_104 : MR 104 = some .int := rfl
theorem mr_105 : MR 105 = some .long := rfl
theorem mr_106 : MR 106 = some .long := rfl
theorem mr_107 : MR 107 = some .int := rfl
theorem mr_108 : MR 108 = some .int := rfl
theorem mr_109 : MR 109 = some .long := rfl
theorem mr_110 : MR 110 = some .long := rfl
theorem mr_111 : MR 111 = some .int := rfl
theorem mr_112 : MR 112 = some .int := rfl
theorem mr_113 : MR 113 = some .int := rfl
theorem mr_114 : MR 114 = some .int := rfl
theorem mr_115 : MR 115 = some .int := rfl
theorem mr_116 : MR 116 = some .int := rfl
theorem mr_117 : MR 117 = none := rfl
theorem mr_118 : MR 118 = some .boolean := rfl
theorem mr_119 : MR 119 = some .boolean := rfl
theorem mr_120 : MR 120 = some .boolean := rfl
theorem mr_121 : MR 121 = some .boolean := rfl
theorem mr_122 : MR 122 = some .boolean := rfl
theorem mr_123 : MR 123 = some .int := rfl
theorem mr_124 : MR 124 = some .int := rfl
theorem mr_125 : MR 125 = some .int := rfl
theorem mr_126 : MR 126 = some .int := rfl
theorem mr_127 : MR 127 = some .long := rfl
theorem mr_128 : MR 128 = some .int := rfl
theorem mr_129 : MR 129 = some .boolean := rfl
theorem mr_130 : MR 130 = some .int := rfl
theorem mr_131 : MR 131 = none := rfl
theorem mr_132 : MR 132 = some .int := rfl
theorem mr_133 : MR 133 = none := rfl
theorem mr_134 : MR 134 = some .boolean := rfl
theorem mr_135 : MR 135 = some .boolean := rfl
theorem mr_136 : MR 136 = some .boolean := rfl
theorem mr_137 : MR 137 = some .boolean := rfl
theorem mr_138 : MR 138 = some .boolean := rfl
theorem mr_139 : MR 139 = some .boolean := rfl
theorem mr_140 : MR 140 = some .boolean := rfl
theorem mr_141 : MR 141 = some .boolean := rfl
theorem mr_142 : MR 142 = some .boolean := rfl
theorem mr_143 : MR 143 = some .boolean := rfl
theorem mr_144 : MR 144 = some .boolean := rfl
theorem mr_145 : MR 145 = some .boolean := rfl
theorem mr_146 : MR 146 = some .boolean := rfl
theorem mr_147 : MR 147 = none := rfl
theorem mr_148 : MR 148 = some .int := rfl
theorem mr_149 : MR 149 = none := rfl
theorem mr_150 : MR 150 = none := rfl
theorem mr_151 : MR 151 = some .boolean := rfl
theorem mr_152 : MR 152 = some .boolean := rfl
theorem mr_153 : MR 153 = some .boolean := rfl
theorem mr_154 : MR 154 = some .boolean := rfl
theorem mr_155 : MR 155 = some .int := rfl
theorem mr_156 : MR 156 = some .int := rfl
theorem mr_157 : MR 157 = some .int := rfl
theorem mr_158 : MR 158 = none := rfl
theorem mr_159 : MR 159 = some .boolean := rfl
theorem mr_160 : MR 160 = some .int := rfl
theorem mr_161 : MR 161 = some .int := rfl
theorem mr_162 : MR 162 = some .int := rfl
theorem mr_163 : MR 163 = some .int := rfl
theorem mr_164 : MR 164 = some .int := rfl
theorem mr_165 : MR 165 = some .boolean := rfl
theorem mr_166 : MR 166 = some .int := rfl
theorem mr_167 : MR 167 = some .int := rfl
theorem mr_168 : MR 168 = some .int := rfl
theorem mr_169 : MR 169 = some .int := rfl
theorem mr_170 : MR 170 = some .boolean := rfl
theorem mr_171 : MR 171 = some .int := rfl
theorem mr_172 : MR 172 = some .boolean := rfl
theorem mr_173 : MR 173 = some .boolean := rfl
theorem mr_174 : MR 174 = some .boolean := rfl
theorem mr_175 : MR 175 = some .int := rfl
theorem mr_176 : MR 176 = none := rfl
theorem mr_177 : MR 177 = none := rfl
theorem mr_178 : MR 178 = some .boolean := rfl
theorem mr_179 : MR 179 = some .int := rfl
theorem mr_180 : MR 180 = some .int := rfl
theorem mr_181 : MR 181 = some .int := rfl
theorem mr_182 : MR 182 = none := rfl
theorem mr_183 : MR 183 = some .int := rfl
theorem mr_184 : MR 184 = some .boolean := rfl
theorem mr_185 : MR 185 = some .int := rfl
theorem mr_186 : MR 186 = some .int := rfl
theorem mr_187 : MR 187 = some .int := rfl
theorem mr_188 : MR 188 = some .int := rfl
theorem mr_189 : MR 189 = some .boolean := rfl
theorem mr_190 : MR 190 = some .boolean := rfl
theorem mr_191 : MR 191 = some .int := rfl
theorem mr_192 : MR 192 = some .int := rfl
theorem mr_193 : MR 193 = some .int := rfl
theorem mr_194 : MR 194 = some .int := rfl
theorem mr_195 : MR 195 = some .int := rfl
theorem mr_196 : MR 196 = none := rfl
theorem mr_197 : MR 197 = some .int := rfl
theorem mr_198 : MR 198 = none := rfl
theorem mr_199 : MR 199 = some .int := rfl
theorem mr_200 : MR 200 = some .int := rfl
theorem mr_201 : MR 201 = some .int := rfl
theorem mr_202 : MR 202 = some .boolean := rfl
theorem mr_203 : MR 203 = some .int := rfl
theorem mr_204 : MR 204 = some .int := rfl
theorem mr_205 : MR 205 = some .int := rfl
theorem mr_206 : MR 206 = some .boolean := rfl
theorem mr_207 : MR 207 = some .long := rfl
theorem mr_208 : MR 208 = some .int := rfl
theorem mr_209 : MR 209 = some .int := rfl
theorem mr_210 : MR 210 = some .int := rfl
theorem mr_211 : MR 211 = some .int := rfl
theorem mr_212 : MR 212 = some .int := rfl
theorem mr_213 : MR 213 = some .int := rfl
theorem mr_214 : MR 214 = some .int := rfl
theorem mr_215 : MR 215 = some .long := rfl
theorem mr_216 : MR 216 = some .long := rfl
theorem mr_217 : MR 217 = some .int := rfl
theorem mr_218 : MR 218 = none := rfl
theorem mr_219 : MR 219 = some .boolean := rfl
theorem mr_220 : MR 220 = some .int := rfl
theorem mr_221 : MR 221 = some .long := rfl
theorem mr_222 : MR 222 = some .long := rfl
theorem mr_223 : MR 223 = some .int := rfl
theorem mr_224 : MR 224 = none := rfl
theorem mr_225 : MR 225 = some .int := rfl
theorem mr_226 : MR 226 = some .boolean := rfl
theorem mr_227 : MR 227 = some .int := rfl
theorem mr_228 : MR 228 = some .boolean := rfl
theorem mr_229 : MR 229 = some .int := rfl
theorem mr_230 : MR 230 = some .int := rfl
theorem mr_231 : MR 231 = none := rfl
theorem mr_232 : MR 232 = some .int := rfl
theorem mr_233 : MR 233 = some .int := rfl
theorem mr_234 : MR 234 = some .int := rfl
theorem mr_235 : MR 235 = some .int := rfl
theorem mr_236 : MR 236 = some .int := rfl
theorem mr_237 : MR 237 = some .int := rfl
theorem mr_238 : MR 238 = some .int := rfl
theorem mr_239 : MR 239 = some .int := rfl
theorem rv_i {x : Int32} : (rvOK (some .int) (some (.int x)) = true) ↔ True := iff_true_intro rfl
theorem rv_l {x : Int64} : (rvOK (some .long) (some (.long x)) = true) ↔ True := iff_true_intro rfl
theorem rv_n : (rvOK none none = true) ↔ True := iff_true_intro rfl
theorem rv_b {x : Int32} : (rvOK (some .boolean) (some (.int x)) = true) ↔ (x = 0 ∨ x = 1) := by simp [rvOK]
theorem uI_1 {σ : mS} {a j a' j' : Nat} {x : Int32} : (uI σ a j x).1 a' j' = if a' = a ∧ j' = j then x else σ.1 a' j' := rfl
theorem uI_2 {σ : mS} {a j : Nat} {x : Int32} : (uI σ a j x).2 = σ.2 := rfl
theorem uL_1 {σ : mS} {a j : Nat} {x : Int64} : (uL σ a j x).1 = σ.1 := rfl
theorem uL_2 {σ : mS} {a j a' j' : Nat} {x : Int64} : (uL σ a j x).2.1 a' j' = if a' = a ∧ j' = j then x else σ.2.1 a' j' := rfl
theorem uL_3 {σ : mS} {a j : Nat} {x : Int64} : (uL σ a j x).2.2 = σ.2.2 := rfl
theorem uQ_1 {σ : mS} {a j : Nat} {x : Option Nat} : (uQ σ a j x).1 = σ.1 := rfl
theorem uQ_2 {σ : mS} {a j : Nat} {x : Option Nat} : (uQ σ a j x).2.1 = σ.2.1 := rfl
theorem uQ_3 {σ : mS} {a j a' j' : Nat} {x : Option Nat} : (uQ σ a j x).2.2 a' j' = if a' = a ∧ j' = j then x else σ.2.2 a' j' := rfl
theorem vn_b0 : vp_nar .boolean 0 = 0 := by decide
theorem vn_b1 : vp_nar .boolean 1 = 1 := by decide
theorem rF_N {w : mT} {σ : mS} {r b c : Nat} (h1 : tg (mL w r) = 100 + b) (h2 : fk (mL w r) c = 3) (h3 : σ.2.2 r c ≠ none) {P : Nat → Prop} : (∃ x : Nat, hF (mW w σ) r b c (.ref x) ∧ P x) ↔ P ((σ.2.2 r c).getD 0) := by
  cases h : σ.2.2 r c with
  | none => exact absurd h h3
  | some q => exact rF_M h1 h2 h
