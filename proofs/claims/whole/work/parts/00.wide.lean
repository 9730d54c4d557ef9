theorem wide_0 : FP.Core.Good FP.Core.b64 := FP.Core.good_b64
