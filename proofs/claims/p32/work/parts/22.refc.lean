/-! what runs and is due -/
def runV (S : Mem) (nc m g k : Nat) : Int32 := bif mHalt S m then -1 else bif rHid S nc m g true k then -1 else (rLook S nc m g true k).1
def runL (S : Mem) (nc m g k : Nat) : Int32 := bif mHalt S m then -1 else bif rHid S nc m g true k then -1 else (rLook S nc m g true k).2.1
def dueV (S : Mem) (nc m g k : Nat) : Int32 := bif rHid S nc m g false k then -1 else (rLook S nc m g false k).1
